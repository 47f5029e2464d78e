theorem dX4_init_0 : decode cX4_init 0 = .ok (.aload_n 0, 1) := by decide +kernel
theorem dX4_init_1 : decode cX4_init 1 = .ok (.invokespecial 1, 3) := by decide +kernel
theorem dX4_init_4 : decode cX4_init 4 = .ok (.aload_n 0, 1) := by decide +kernel
theorem dX4_init_5 : decode cX4_init 5 = .ok (.bipush 8, 2) := by decide +kernel
theorem dX4_init_7 : decode cX4_init 7 = .ok (.newarray .int, 2) := by decide +kernel
theorem dX4_init_9 : decode cX4_init 9 = .ok (.putfield 7, 3) := by decide +kernel
theorem dX4_init_12 : decode cX4_init 12 = .ok (.aload_n 0, 1) := by decide +kernel
theorem dX4_init_13 : decode cX4_init 13 = .ok (.bipush 72, 2) := by decide +kernel
theorem dX4_init_15 : decode cX4_init 15 = .ok (.newarray .int, 2) := by decide +kernel
theorem dX4_init_17 : decode cX4_init 17 = .ok (.putfield 13, 3) := by decide +kernel
theorem dX4_init_20 : decode cX4_init 20 = .ok (.aload_n 0, 1) := by decide +kernel
theorem dX4_init_21 : decode cX4_init 21 = .ok (.bipush 9, 2) := by decide +kernel
theorem dX4_init_23 : decode cX4_init 23 = .ok (.newarray .int, 2) := by decide +kernel
theorem dX4_init_25 : decode cX4_init 25 = .ok (.putfield 16, 3) := by decide +kernel
theorem dX4_init_28 : decode cX4_init 28 = .ok (.aload_n 0, 1) := by decide +kernel
theorem dX4_init_29 : decode cX4_init 29 = .ok (.bipush 8, 2) := by decide +kernel
theorem dX4_init_31 : decode cX4_init 31 = .ok (.newarray .int, 2) := by decide +kernel
theorem dX4_init_33 : decode cX4_init 33 = .ok (.putfield 19, 3) := by decide +kernel
theorem dX4_init_36 : decode cX4_init 36 = .ok (.aload_n 0, 1) := by decide +kernel
theorem dX4_init_37 : decode cX4_init 37 = .ok (.bipush 72, 2) := by decide +kernel
theorem dX4_init_39 : decode cX4_init 39 = .ok (.newarray .int, 2) := by decide +kernel
theorem dX4_init_41 : decode cX4_init 41 = .ok (.putfield 22, 3) := by decide +kernel
theorem dX4_init_44 : decode cX4_init 44 = .ok (.aload_n 0, 1) := by decide +kernel
theorem dX4_init_45 : decode cX4_init 45 = .ok (.bipush 8, 2) := by decide +kernel
theorem dX4_init_47 : decode cX4_init 47 = .ok (.newarray .int, 2) := by decide +kernel
theorem dX4_init_49 : decode cX4_init 49 = .ok (.putfield 25, 3) := by decide +kernel
theorem dX4_init_52 : decode cX4_init 52 = .ok (.aload_n 0, 1) := by decide +kernel
theorem dX4_init_53 : decode cX4_init 53 = .ok (.bipush 8, 2) := by decide +kernel
theorem dX4_init_55 : decode cX4_init 55 = .ok (.newarray .int, 2) := by decide +kernel
theorem dX4_init_57 : decode cX4_init 57 = .ok (.putfield 28, 3) := by decide +kernel
theorem dX4_init_60 : decode cX4_init 60 = .ok (.aload_n 0, 1) := by decide +kernel
theorem dX4_init_61 : decode cX4_init 61 = .ok (.bipush 8, 2) := by decide +kernel
theorem dX4_init_63 : decode cX4_init 63 = .ok (.newarray .int, 2) := by decide +kernel
theorem dX4_init_65 : decode cX4_init 65 = .ok (.putfield 31, 3) := by decide +kernel
theorem dX4_init_68 : decode cX4_init 68 = .ok (.aload_n 0, 1) := by decide +kernel
theorem dX4_init_69 : decode cX4_init 69 = .ok (.bipush 8, 2) := by decide +kernel
theorem dX4_init_71 : decode cX4_init 71 = .ok (.newarray .int, 2) := by decide +kernel
theorem dX4_init_73 : decode cX4_init 73 = .ok (.putfield 34, 3) := by decide +kernel
theorem dX4_init_76 : decode cX4_init 76 = .ok (.aload_n 0, 1) := by decide +kernel
theorem dX4_init_77 : decode cX4_init 77 = .ok (.bipush 8, 2) := by decide +kernel
theorem dX4_init_79 : decode cX4_init 79 = .ok (.newarray .int, 2) := by decide +kernel
theorem dX4_init_81 : decode cX4_init 81 = .ok (.putfield 37, 3) := by decide +kernel
theorem dX4_init_84 : decode cX4_init 84 = .ok (.aload_n 0, 1) := by decide +kernel
theorem dX4_init_85 : decode cX4_init 85 = .ok (.bipush 8, 2) := by decide +kernel
theorem dX4_init_87 : decode cX4_init 87 = .ok (.newarray .int, 2) := by decide +kernel
theorem dX4_init_89 : decode cX4_init 89 = .ok (.putfield 40, 3) := by decide +kernel
theorem dX4_init_92 : decode cX4_init 92 = .ok (.aload_n 0, 1) := by decide +kernel
theorem dX4_init_93 : decode cX4_init 93 = .ok (.bipush 9, 2) := by decide +kernel
theorem dX4_init_95 : decode cX4_init 95 = .ok (.newarray .int, 2) := by decide +kernel
theorem dX4_init_97 : decode cX4_init 97 = .ok (.putfield 43, 3) := by decide +kernel
theorem dX4_init_100 : decode cX4_init 100 = .ok (.aload_n 0, 1) := by decide +kernel
theorem dX4_init_101 : decode cX4_init 101 = .ok (.bipush 8, 2) := by decide +kernel
theorem dX4_init_103 : decode cX4_init 103 = .ok (.newarray .int, 2) := by decide +kernel
theorem dX4_init_105 : decode cX4_init 105 = .ok (.putfield 46, 3) := by decide +kernel
theorem dX4_init_108 : decode cX4_init 108 = .ok (.aload_n 0, 1) := by decide +kernel
theorem dX4_init_109 : decode cX4_init 109 = .ok (.iconst 4, 1) := by decide +kernel
theorem dX4_init_110 : decode cX4_init 110 = .ok (.newarray .int, 2) := by decide +kernel
theorem dX4_init_112 : decode cX4_init 112 = .ok (.putfield 49, 3) := by decide +kernel
theorem dX4_init_115 : decode cX4_init 115 = .ok (.aload_n 0, 1) := by decide +kernel
theorem dX4_init_116 : decode cX4_init 116 = .ok (.iconst 4, 1) := by decide +kernel
theorem dX4_init_117 : decode cX4_init 117 = .ok (.newarray .int, 2) := by decide +kernel
theorem dX4_init_119 : decode cX4_init 119 = .ok (.putfield 52, 3) := by decide +kernel
theorem dX4_init_122 : decode cX4_init 122 = .ok (.aload_n 0, 1) := by decide +kernel
theorem dX4_init_123 : decode cX4_init 123 = .ok (.sipush 360, 3) := by decide +kernel
theorem dX4_init_126 : decode cX4_init 126 = .ok (.newarray .int, 2) := by decide +kernel
theorem dX4_init_128 : decode cX4_init 128 = .ok (.putfield 55, 3) := by decide +kernel
theorem dX4_init_131 : decode cX4_init 131 = .ok (.aload_n 0, 1) := by decide +kernel
theorem dX4_init_132 : decode cX4_init 132 = .ok (.bipush 90, 2) := by decide +kernel
theorem dX4_init_134 : decode cX4_init 134 = .ok (.newarray .int, 2) := by decide +kernel
theorem dX4_init_136 : decode cX4_init 136 = .ok (.putfield 58, 3) := by decide +kernel
theorem dX4_init_139 : decode cX4_init 139 = .ok (.iconst 0, 1) := by decide +kernel
theorem dX4_init_140 : decode cX4_init 140 = .ok (.istore_n 1, 1) := by decide +kernel
theorem dX4_init_141 : decode cX4_init 141 = .ok (.iload_n 1, 1) := by decide +kernel
theorem dX4_init_142 : decode cX4_init 142 = .ok (.iconst 4, 1) := by decide +kernel
theorem dX4_init_143 : decode cX4_init 143 = .ok (.if_icmp .ge 16, 3) := by decide +kernel
theorem dX4_init_146 : decode cX4_init 146 = .ok (.aload_n 0, 1) := by decide +kernel
theorem dX4_init_147 : decode cX4_init 147 = .ok (.getfield 49, 3) := by decide +kernel
theorem dX4_init_150 : decode cX4_init 150 = .ok (.iload_n 1, 1) := by decide +kernel
theorem dX4_init_151 : decode cX4_init 151 = .ok (.iconst (-1), 1) := by decide +kernel
theorem dX4_init_152 : decode cX4_init 152 = .ok (.iastore, 1) := by decide +kernel
theorem dX4_init_153 : decode cX4_init 153 = .ok (.iinc 1 1, 3) := by decide +kernel
theorem dX4_init_156 : decode cX4_init 156 = .ok (.goto (-15), 3) := by decide +kernel
theorem dX4_init_159 : decode cX4_init 159 = .ok (.return_, 1) := by decide +kernel
theorem dX4_in_0 : decode cX4_in 0 = .ok (.lload_n 0, 1) := by decide +kernel
theorem dX4_in_1 : decode cX4_in 1 = .ok (.lload_n 2, 1) := by decide +kernel
theorem dX4_in_2 : decode cX4_in 2 = .ok (.lcmp, 1) := by decide +kernel
theorem dX4_in_3 : decode cX4_in 3 = .ok (.ifCond .lt 14, 3) := by decide +kernel
theorem dX4_in_6 : decode cX4_in 6 = .ok (.lload_n 0, 1) := by decide +kernel
theorem dX4_in_7 : decode cX4_in 7 = .ok (.lload 4, 2) := by decide +kernel
theorem dX4_in_9 : decode cX4_in 9 = .ok (.lcmp, 1) := by decide +kernel
theorem dX4_in_10 : decode cX4_in 10 = .ok (.ifCond .gt 7, 3) := by decide +kernel
theorem dX4_in_13 : decode cX4_in 13 = .ok (.iconst 1, 1) := by decide +kernel
theorem dX4_in_14 : decode cX4_in 14 = .ok (.goto 4, 3) := by decide +kernel
theorem dX4_in_17 : decode cX4_in 17 = .ok (.iconst 0, 1) := by decide +kernel
theorem dX4_in_18 : decode cX4_in 18 = .ok (.ireturn, 1) := by decide +kernel
theorem dX4_lost_0 : decode cX4_lost 0 = .ok (.ldc2_w 61, 3) := by decide +kernel
theorem dX4_lost_3 : decode cX4_lost 3 = .ok (.lreturn, 1) := by decide +kernel
theorem dX4_greater_0 : decode cX4_greater 0 = .ok (.iload_n 0, 1) := by decide +kernel
theorem dX4_greater_1 : decode cX4_greater 1 = .ok (.iload_n 1, 1) := by decide +kernel
theorem dX4_greater_2 : decode cX4_greater 2 = .ok (.if_icmp .le 7, 3) := by decide +kernel
theorem dX4_greater_5 : decode cX4_greater 5 = .ok (.iload_n 0, 1) := by decide +kernel
theorem dX4_greater_6 : decode cX4_greater 6 = .ok (.goto 4, 3) := by decide +kernel
theorem dX4_greater_9 : decode cX4_greater 9 = .ok (.iload_n 1, 1) := by decide +kernel
theorem dX4_greater_10 : decode cX4_greater 10 = .ok (.ireturn, 1) := by decide +kernel
theorem dX4_off_0 : decode cX4_off 0 = .ok (.iload_n 0, 1) := by decide +kernel
theorem dX4_off_1 : decode cX4_off 1 = .ok (.iload_n 1, 1) := by decide +kernel
theorem dX4_off_2 : decode cX4_off 2 = .ok (.if_icmp .ge 9, 3) := by decide +kernel
theorem dX4_off_5 : decode cX4_off 5 = .ok (.iload_n 1, 1) := by decide +kernel
theorem dX4_off_6 : decode cX4_off 6 = .ok (.iload_n 0, 1) := by decide +kernel
theorem dX4_off_7 : decode cX4_off 7 = .ok (.isub, 1) := by decide +kernel
theorem dX4_off_8 : decode cX4_off 8 = .ok (.goto 6, 3) := by decide +kernel
theorem dX4_off_11 : decode cX4_off 11 = .ok (.iload_n 0, 1) := by decide +kernel
theorem dX4_off_12 : decode cX4_off 12 = .ok (.iload_n 1, 1) := by decide +kernel
theorem dX4_off_13 : decode cX4_off 13 = .ok (.isub, 1) := by decide +kernel
theorem dX4_off_14 : decode cX4_off 14 = .ok (.ireturn, 1) := by decide +kernel
theorem dX4_told_0 : decode cX4_told 0 = .ok (.lload_n 0, 1) := by decide +kernel
theorem dX4_told_1 : decode cX4_told 1 = .ok (.lstore 5, 2) := by decide +kernel
theorem dX4_told_3 : decode cX4_told 3 = .ok (.lload_n 2, 1) := by decide +kernel
theorem dX4_told_4 : decode cX4_told 4 = .ok (.lstore 7, 2) := by decide +kernel
theorem dX4_told_6 : decode cX4_told 6 = .ok (.lload 7, 2) := by decide +kernel
theorem dX4_told_8 : decode cX4_told 8 = .ok (.lconst 0, 1) := by decide +kernel
theorem dX4_told_9 : decode cX4_told 9 = .ok (.lcmp, 1) := by decide +kernel
theorem dX4_told_10 : decode cX4_told 10 = .ok (.ifCond .eq 21, 3) := by decide +kernel
theorem dX4_told_13 : decode cX4_told 13 = .ok (.lload 5, 2) := by decide +kernel
theorem dX4_told_15 : decode cX4_told 15 = .ok (.lload 7, 2) := by decide +kernel
theorem dX4_told_17 : decode cX4_told 17 = .ok (.lrem, 1) := by decide +kernel
theorem dX4_told_18 : decode cX4_told 18 = .ok (.lstore 9, 2) := by decide +kernel
theorem dX4_told_20 : decode cX4_told 20 = .ok (.lload 7, 2) := by decide +kernel
theorem dX4_told_22 : decode cX4_told 22 = .ok (.lstore 5, 2) := by decide +kernel
theorem dX4_told_24 : decode cX4_told 24 = .ok (.lload 9, 2) := by decide +kernel
theorem dX4_told_26 : decode cX4_told 26 = .ok (.lstore 7, 2) := by decide +kernel
theorem dX4_told_28 : decode cX4_told 28 = .ok (.goto (-22), 3) := by decide +kernel
theorem dX4_told_31 : decode cX4_told 31 = .ok (.iload 4, 2) := by decide +kernel
theorem dX4_told_33 : decode cX4_told 33 = .ok (.ifCond .ne 7, 3) := by decide +kernel
theorem dX4_told_36 : decode cX4_told 36 = .ok (.lload_n 0, 1) := by decide +kernel
theorem dX4_told_37 : decode cX4_told 37 = .ok (.goto 4, 3) := by decide +kernel
theorem dX4_told_40 : decode cX4_told 40 = .ok (.lload_n 2, 1) := by decide +kernel
theorem dX4_told_41 : decode cX4_told 41 = .ok (.lload 5, 2) := by decide +kernel
theorem dX4_told_43 : decode cX4_told 43 = .ok (.ldiv, 1) := by decide +kernel
theorem dX4_told_44 : decode cX4_told 44 = .ok (.lreturn, 1) := by decide +kernel
theorem dX4_refused_0 : decode cX4_refused 0 = .ok (.aload_n 0, 1) := by decide +kernel
theorem dX4_refused_1 : decode cX4_refused 1 = .ok (.iconst 0, 1) := by decide +kernel
theorem dX4_refused_2 : decode cX4_refused 2 = .ok (.putfield 63, 3) := by decide +kernel
theorem dX4_refused_5 : decode cX4_refused 5 = .ok (.iload_n 1, 1) := by decide +kernel
theorem dX4_refused_6 : decode cX4_refused 6 = .ok (.ireturn, 1) := by decide +kernel
theorem dX4_failed_0 : decode cX4_failed 0 = .ok (.aload_n 0, 1) := by decide +kernel
theorem dX4_failed_1 : decode cX4_failed 1 = .ok (.iload_n 1, 1) := by decide +kernel
theorem dX4_failed_2 : decode cX4_failed 2 = .ok (.putfield 63, 3) := by decide +kernel
theorem dX4_failed_5 : decode cX4_failed 5 = .ok (.bipush (-10), 2) := by decide +kernel
theorem dX4_failed_7 : decode cX4_failed 7 = .ok (.iload_n 1, 1) := by decide +kernel
theorem dX4_failed_8 : decode cX4_failed 8 = .ok (.isub, 1) := by decide +kernel
theorem dX4_failed_9 : decode cX4_failed 9 = .ok (.ireturn, 1) := by decide +kernel
set_option maxRecDepth 20000 in
theorem ggX4_failedLong_X4_lost : GoodIn wsX4_failedLong wsX4_lost := goodIn_r _ [5, 6] (by decide +kernel) (by decide +kernel)
set_option maxRecDepth 20000 in
theorem gX4_failedLong_X4_lost : GoodIn wsX4_failedLong (va_wsS RX4 67 yX4_lost wsX4_lost) := goodIn_app (goodIn_of _ (by decide +kernel)) ggX4_failedLong_X4_lost
theorem dX4_failedLong_0 : decode cX4_failedLong 0 = .ok (.aload_n 0, 1) := by decide +kernel
theorem dX4_failedLong_1 : decode cX4_failedLong 1 = .ok (.iload_n 1, 1) := by decide +kernel
theorem dX4_failedLong_2 : decode cX4_failedLong 2 = .ok (.putfield 63, 3) := by decide +kernel
theorem dX4_failedLong_5 : decode cX4_failedLong 5 = .ok (.invokestatic 67, 3) := by decide +kernel
theorem dX4_failedLong_8 : decode cX4_failedLong 8 = .ok (.lreturn, 1) := by decide +kernel
set_option maxRecDepth 20000 in
theorem ggX4_barred_X4_noSheet : GoodIn wsX4_barred wsX4_noSheet := goodIn_r _ [7, 8, 9, 10, 6, 11] (by decide +kernel) (by decide +kernel)
set_option maxRecDepth 20000 in
theorem gX4_barred_X4_noSheet : GoodIn wsX4_barred (va_wsS RX4 71 yX4_noSheet wsX4_noSheet) := goodIn_app (goodIn_of _ (by decide +kernel)) ggX4_barred_X4_noSheet
set_option maxRecDepth 20000 in
theorem ggX4_barred_X4_refused : GoodIn wsX4_barred wsX4_refused := goodIn_r _ [15, 16, 24, 25, 26, 27, 28, 29, 30, 31, 32, 33, 34, 35, 36, 37, 38, 39, 40, 41, 42, 43, 44, 45, 46, 47, 48] (by decide +kernel) (by decide +kernel)
set_option maxRecDepth 20000 in
theorem gX4_barred_X4_refused : GoodIn wsX4_barred (wsV RX4 75 RX4 yX4_refused wsX4_refused) := goodIn_app (goodIn_of _ (by decide +kernel)) ggX4_barred_X4_refused
set_option maxRecDepth 20000 in
theorem ggX4_barred_X4_in : GoodIn wsX4_barred wsX4_in := goodIn_r _ [11] (by decide +kernel) (by decide +kernel)
set_option maxRecDepth 20000 in
theorem gX4_barred_X4_in : GoodIn wsX4_barred (va_wsS RX4 81 yX4_in wsX4_in) := goodIn_app (goodIn_of _ (by decide +kernel)) ggX4_barred_X4_in
set_option maxRecDepth 20000 in
theorem ggX4_barred_X4_failed : GoodIn wsX4_barred wsX4_failed := goodIn_r _ [20, 16, 24, 25, 26, 27, 28, 29, 30, 31, 32, 33, 34, 35, 36, 37, 38, 39, 40, 41, 42, 43, 44, 45, 46, 47, 48] (by decide +kernel) (by decide +kernel)
set_option maxRecDepth 20000 in
theorem gX4_barred_X4_failed : GoodIn wsX4_barred (wsV RX4 85 RX4 yX4_failed wsX4_failed) := goodIn_app (goodIn_of _ (by decide +kernel)) ggX4_barred_X4_failed
set_option maxRecDepth 20000 in
theorem ggX4_barred_X4_isBeyond : GoodIn wsX4_barred wsX4_isBeyond := goodIn_r _ [23] (by decide +kernel) (by decide +kernel)
set_option maxRecDepth 20000 in
theorem gX4_barred_X4_isBeyond : GoodIn wsX4_barred (va_wsS RX4 88 yX4_isBeyond wsX4_isBeyond) := goodIn_app (goodIn_of _ (by decide +kernel)) ggX4_barred_X4_isBeyond
theorem dX4_barred_0 : decode cX4_barred 0 = .ok (.iload_n 1, 1) := by decide +kernel
theorem dX4_barred_1 : decode cX4_barred 1 = .ok (.invokestatic 71, 3) := by decide +kernel
theorem dX4_barred_4 : decode cX4_barred 4 = .ok (.ifCond .eq 9, 3) := by decide +kernel
theorem dX4_barred_7 : decode cX4_barred 7 = .ok (.aload_n 0, 1) := by decide +kernel
theorem dX4_barred_8 : decode cX4_barred 8 = .ok (.iconst (-1), 1) := by decide +kernel
theorem dX4_barred_9 : decode cX4_barred 9 = .ok (.invokevirtual 75, 3) := by decide +kernel
theorem dX4_barred_12 : decode cX4_barred 12 = .ok (.ireturn, 1) := by decide +kernel
theorem dX4_barred_13 : decode cX4_barred 13 = .ok (.iload_n 2, 1) := by decide +kernel
theorem dX4_barred_14 : decode cX4_barred 14 = .ok (.i2l, 1) := by decide +kernel
theorem dX4_barred_15 : decode cX4_barred 15 = .ok (.lconst 0, 1) := by decide +kernel
theorem dX4_barred_16 : decode cX4_barred 16 = .ok (.ldc2_w 79, 3) := by decide +kernel
theorem dX4_barred_19 : decode cX4_barred 19 = .ok (.invokestatic 81, 3) := by decide +kernel
theorem dX4_barred_22 : decode cX4_barred 22 = .ok (.ifCond .ne 10, 3) := by decide +kernel
theorem dX4_barred_25 : decode cX4_barred 25 = .ok (.aload_n 0, 1) := by decide +kernel
theorem dX4_barred_26 : decode cX4_barred 26 = .ok (.bipush (-2), 2) := by decide +kernel
theorem dX4_barred_28 : decode cX4_barred 28 = .ok (.invokevirtual 75, 3) := by decide +kernel
theorem dX4_barred_31 : decode cX4_barred 31 = .ok (.ireturn, 1) := by decide +kernel
theorem dX4_barred_32 : decode cX4_barred 32 = .ok (.aload_n 0, 1) := by decide +kernel
theorem dX4_barred_33 : decode cX4_barred 33 = .ok (.getfield 49, 3) := by decide +kernel
theorem dX4_barred_36 : decode cX4_barred 36 = .ok (.iload_n 1, 1) := by decide +kernel
theorem dX4_barred_37 : decode cX4_barred 37 = .ok (.iaload, 1) := by decide +kernel
theorem dX4_barred_38 : decode cX4_barred 38 = .ok (.ifCond .lt 19, 3) := by decide +kernel
theorem dX4_barred_41 : decode cX4_barred 41 = .ok (.aload_n 0, 1) := by decide +kernel
theorem dX4_barred_42 : decode cX4_barred 42 = .ok (.getfield 52, 3) := by decide +kernel
theorem dX4_barred_45 : decode cX4_barred 45 = .ok (.iload_n 1, 1) := by decide +kernel
theorem dX4_barred_46 : decode cX4_barred 46 = .ok (.iaload, 1) := by decide +kernel
theorem dX4_barred_47 : decode cX4_barred 47 = .ok (.iload_n 2, 1) := by decide +kernel
theorem dX4_barred_48 : decode cX4_barred 48 = .ok (.if_icmp .eq 9, 3) := by decide +kernel
theorem dX4_barred_51 : decode cX4_barred 51 = .ok (.aload_n 0, 1) := by decide +kernel
theorem dX4_barred_52 : decode cX4_barred 52 = .ok (.iconst 2, 1) := by decide +kernel
theorem dX4_barred_53 : decode cX4_barred 53 = .ok (.invokevirtual 85, 3) := by decide +kernel
theorem dX4_barred_56 : decode cX4_barred 56 = .ok (.ireturn, 1) := by decide +kernel
theorem dX4_barred_57 : decode cX4_barred 57 = .ok (.aload_n 0, 1) := by decide +kernel
theorem dX4_barred_58 : decode cX4_barred 58 = .ok (.getfield 49, 3) := by decide +kernel
theorem dX4_barred_61 : decode cX4_barred 61 = .ok (.iload_n 1, 1) := by decide +kernel
theorem dX4_barred_62 : decode cX4_barred 62 = .ok (.iaload, 1) := by decide +kernel
theorem dX4_barred_63 : decode cX4_barred 63 = .ok (.ifCond .ge 9, 3) := by decide +kernel
theorem dX4_barred_66 : decode cX4_barred 66 = .ok (.aload_n 0, 1) := by decide +kernel
theorem dX4_barred_67 : decode cX4_barred 67 = .ok (.iconst 1, 1) := by decide +kernel
theorem dX4_barred_68 : decode cX4_barred 68 = .ok (.invokevirtual 85, 3) := by decide +kernel
theorem dX4_barred_71 : decode cX4_barred 71 = .ok (.ireturn, 1) := by decide +kernel
theorem dX4_barred_72 : decode cX4_barred 72 = .ok (.lload 4, 2) := by decide +kernel
theorem dX4_barred_74 : decode cX4_barred 74 = .ok (.lconst 0, 1) := by decide +kernel
theorem dX4_barred_75 : decode cX4_barred 75 = .ok (.lcmp, 1) := by decide +kernel
theorem dX4_barred_76 : decode cX4_barred 76 = .ok (.ifCond .ge 9, 3) := by decide +kernel
theorem dX4_barred_79 : decode cX4_barred 79 = .ok (.aload_n 0, 1) := by decide +kernel
theorem dX4_barred_80 : decode cX4_barred 80 = .ok (.iconst 4, 1) := by decide +kernel
theorem dX4_barred_81 : decode cX4_barred 81 = .ok (.invokevirtual 85, 3) := by decide +kernel
theorem dX4_barred_84 : decode cX4_barred 84 = .ok (.ireturn, 1) := by decide +kernel
theorem dX4_barred_85 : decode cX4_barred 85 = .ok (.iload_n 3, 1) := by decide +kernel
theorem dX4_barred_86 : decode cX4_barred 86 = .ok (.lload 4, 2) := by decide +kernel
theorem dX4_barred_88 : decode cX4_barred 88 = .ok (.aload_n 0, 1) := by decide +kernel
theorem dX4_barred_89 : decode cX4_barred 89 = .ok (.getfield 49, 3) := by decide +kernel
theorem dX4_barred_92 : decode cX4_barred 92 = .ok (.iload_n 1, 1) := by decide +kernel
theorem dX4_barred_93 : decode cX4_barred 93 = .ok (.iaload, 1) := by decide +kernel
theorem dX4_barred_94 : decode cX4_barred 94 = .ok (.invokestatic 88, 3) := by decide +kernel
theorem dX4_barred_97 : decode cX4_barred 97 = .ok (.ifCond .eq 11, 3) := by decide +kernel
theorem dX4_barred_100 : decode cX4_barred 100 = .ok (.aload_n 0, 1) := by decide +kernel
theorem dX4_barred_101 : decode cX4_barred 101 = .ok (.iconst 3, 1) := by decide +kernel
theorem dX4_barred_102 : decode cX4_barred 102 = .ok (.invokevirtual 85, 3) := by decide +kernel
theorem dX4_barred_105 : decode cX4_barred 105 = .ok (.goto 4, 3) := by decide +kernel
theorem dX4_barred_108 : decode cX4_barred 108 = .ok (.iconst 0, 1) := by decide +kernel
theorem dX4_barred_109 : decode cX4_barred 109 = .ok (.ireturn, 1) := by decide +kernel
set_option maxRecDepth 20000 in
theorem ggX4_noSign_X4_in : GoodIn wsX4_noSign wsX4_in := goodIn_r _ [5] (by decide +kernel) (by decide +kernel)
set_option maxRecDepth 20000 in
theorem gX4_noSign_X4_in : GoodIn wsX4_noSign (va_wsS RX4 81 yX4_in wsX4_in) := goodIn_app (goodIn_of _ (by decide +kernel)) ggX4_noSign_X4_in
theorem dX4_noSign_0 : decode cX4_noSign 0 = .ok (.iload_n 1, 1) := by decide +kernel
theorem dX4_noSign_1 : decode cX4_noSign 1 = .ok (.i2l, 1) := by decide +kernel
theorem dX4_noSign_2 : decode cX4_noSign 2 = .ok (.lconst 0, 1) := by decide +kernel
theorem dX4_noSign_3 : decode cX4_noSign 3 = .ok (.aload_n 0, 1) := by decide +kernel
theorem dX4_noSign_4 : decode cX4_noSign 4 = .ok (.getfield 92, 3) := by decide +kernel
theorem dX4_noSign_7 : decode cX4_noSign 7 = .ok (.i2l, 1) := by decide +kernel
theorem dX4_noSign_8 : decode cX4_noSign 8 = .ok (.lconst 1, 1) := by decide +kernel
theorem dX4_noSign_9 : decode cX4_noSign 9 = .ok (.lsub, 1) := by decide +kernel
theorem dX4_noSign_10 : decode cX4_noSign 10 = .ok (.invokestatic 81, 3) := by decide +kernel
theorem dX4_noSign_13 : decode cX4_noSign 13 = .ok (.ifCond .ne 7, 3) := by decide +kernel
theorem dX4_noSign_16 : decode cX4_noSign 16 = .ok (.iconst 1, 1) := by decide +kernel
theorem dX4_noSign_17 : decode cX4_noSign 17 = .ok (.goto 4, 3) := by decide +kernel
theorem dX4_noSign_20 : decode cX4_noSign 20 = .ok (.iconst 0, 1) := by decide +kernel
theorem dX4_noSign_21 : decode cX4_noSign 21 = .ok (.ireturn, 1) := by decide +kernel
set_option maxRecDepth 20000 in
theorem ggX4_noSmell_X4_in : GoodIn wsX4_noSmell wsX4_in := goodIn_r _ [5] (by decide +kernel) (by decide +kernel)
set_option maxRecDepth 20000 in
theorem gX4_noSmell_X4_in : GoodIn wsX4_noSmell (va_wsS RX4 81 yX4_in wsX4_in) := goodIn_app (goodIn_of _ (by decide +kernel)) ggX4_noSmell_X4_in
theorem dX4_noSmell_0 : decode cX4_noSmell 0 = .ok (.iload_n 0, 1) := by decide +kernel
theorem dX4_noSmell_1 : decode cX4_noSmell 1 = .ok (.i2l, 1) := by decide +kernel
theorem dX4_noSmell_2 : decode cX4_noSmell 2 = .ok (.lconst 0, 1) := by decide +kernel
theorem dX4_noSmell_3 : decode cX4_noSmell 3 = .ok (.ldc2_w 95, 3) := by decide +kernel
theorem dX4_noSmell_6 : decode cX4_noSmell 6 = .ok (.invokestatic 81, 3) := by decide +kernel
theorem dX4_noSmell_9 : decode cX4_noSmell 9 = .ok (.ifCond .ne 7, 3) := by decide +kernel
theorem dX4_noSmell_12 : decode cX4_noSmell 12 = .ok (.iconst 1, 1) := by decide +kernel
theorem dX4_noSmell_13 : decode cX4_noSmell 13 = .ok (.goto 4, 3) := by decide +kernel
theorem dX4_noSmell_16 : decode cX4_noSmell 16 = .ok (.iconst 0, 1) := by decide +kernel
theorem dX4_noSmell_17 : decode cX4_noSmell 17 = .ok (.ireturn, 1) := by decide +kernel
theorem dX4_codeAt_0 : decode cX4_codeAt 0 = .ok (.aload_n 0, 1) := by decide +kernel
theorem dX4_codeAt_1 : decode cX4_codeAt 1 = .ok (.getfield 97, 3) := by decide +kernel
theorem dX4_codeAt_4 : decode cX4_codeAt 4 = .ok (.iload_n 2, 1) := by decide +kernel
theorem dX4_codeAt_5 : decode cX4_codeAt 5 = .ok (.if_icmp .ge 17, 3) := by decide +kernel
theorem dX4_codeAt_8 : decode cX4_codeAt 8 = .ok (.aload_n 0, 1) := by decide +kernel
theorem dX4_codeAt_9 : decode cX4_codeAt 9 = .ok (.getfield 55, 3) := by decide +kernel
theorem dX4_codeAt_12 : decode cX4_codeAt 12 = .ok (.iload_n 1, 1) := by decide +kernel
theorem dX4_codeAt_13 : decode cX4_codeAt 13 = .ok (.aload_n 0, 1) := by decide +kernel
theorem dX4_codeAt_14 : decode cX4_codeAt 14 = .ok (.getfield 97, 3) := by decide +kernel
theorem dX4_codeAt_17 : decode cX4_codeAt 17 = .ok (.iadd, 1) := by decide +kernel
theorem dX4_codeAt_18 : decode cX4_codeAt 18 = .ok (.iaload, 1) := by decide +kernel
theorem dX4_codeAt_19 : decode cX4_codeAt 19 = .ok (.goto 5, 3) := by decide +kernel
theorem dX4_codeAt_22 : decode cX4_codeAt 22 = .ok (.bipush (-9), 2) := by decide +kernel
theorem dX4_codeAt_24 : decode cX4_codeAt 24 = .ok (.ireturn, 1) := by decide +kernel
set_option maxRecDepth 20000 in
theorem ggX4_readsSign_X4_codeAt : GoodIn wsX4_readsSign wsX4_codeAt := goodIn_r _ [10, 2, 11, 15, 16, 17, 18, 19, 20, 21, 22, 23, 24, 25, 26, 27, 28, 29, 30, 31, 32, 33, 34, 35, 36, 37, 38, 39] (by decide +kernel) (by decide +kernel)
set_option maxRecDepth 20000 in
theorem gX4_readsSign_X4_codeAt : GoodIn wsX4_readsSign (wsV RX4 103 RX4 yX4_codeAt wsX4_codeAt) := goodIn_app (goodIn_of _ (by decide +kernel)) ggX4_readsSign_X4_codeAt
set_option maxRecDepth 20000 in
theorem ggX4_readsSign_X4_in : GoodIn wsX4_readsSign wsX4_in := goodIn_r _ [14] (by decide +kernel) (by decide +kernel)
set_option maxRecDepth 20000 in
theorem gX4_readsSign_X4_in : GoodIn wsX4_readsSign (va_wsS RX4 81 yX4_in wsX4_in) := goodIn_app (goodIn_of _ (by decide +kernel)) ggX4_readsSign_X4_in
theorem dX4_readsSign_0 : decode cX4_readsSign 0 = .ok (.aload_n 0, 1) := by decide +kernel
theorem dX4_readsSign_1 : decode cX4_readsSign 1 = .ok (.getfield 100, 3) := by decide +kernel
theorem dX4_readsSign_4 : decode cX4_readsSign 4 = .ok (.ifCond .le 35, 3) := by decide +kernel
theorem dX4_readsSign_7 : decode cX4_readsSign 7 = .ok (.aload_n 0, 1) := by decide +kernel
theorem dX4_readsSign_8 : decode cX4_readsSign 8 = .ok (.getfield 100, 3) := by decide +kernel
theorem dX4_readsSign_11 : decode cX4_readsSign 11 = .ok (.bipush 8, 2) := by decide +kernel
theorem dX4_readsSign_13 : decode cX4_readsSign 13 = .ok (.if_icmp .eq 14, 3) := by decide +kernel
theorem dX4_readsSign_16 : decode cX4_readsSign 16 = .ok (.aload_n 0, 1) := by decide +kernel
theorem dX4_readsSign_17 : decode cX4_readsSign 17 = .ok (.iload_n 1, 1) := by decide +kernel
theorem dX4_readsSign_18 : decode cX4_readsSign 18 = .ok (.iload_n 2, 1) := by decide +kernel
theorem dX4_readsSign_19 : decode cX4_readsSign 19 = .ok (.invokevirtual 103, 3) := by decide +kernel
theorem dX4_readsSign_22 : decode cX4_readsSign 22 = .ok (.bipush 59, 2) := by decide +kernel
theorem dX4_readsSign_24 : decode cX4_readsSign 24 = .ok (.if_icmp .eq 5, 3) := by decide +kernel
theorem dX4_readsSign_27 : decode cX4_readsSign 27 = .ok (.iconst 0, 1) := by decide +kernel
theorem dX4_readsSign_28 : decode cX4_readsSign 28 = .ok (.ireturn, 1) := by decide +kernel
theorem dX4_readsSign_29 : decode cX4_readsSign 29 = .ok (.aload_n 0, 1) := by decide +kernel
theorem dX4_readsSign_30 : decode cX4_readsSign 30 = .ok (.dup, 1) := by decide +kernel
theorem dX4_readsSign_31 : decode cX4_readsSign 31 = .ok (.getfield 97, 3) := by decide +kernel
theorem dX4_readsSign_34 : decode cX4_readsSign 34 = .ok (.iconst 1, 1) := by decide +kernel
theorem dX4_readsSign_35 : decode cX4_readsSign 35 = .ok (.iadd, 1) := by decide +kernel
theorem dX4_readsSign_36 : decode cX4_readsSign 36 = .ok (.putfield 97, 3) := by decide +kernel
theorem dX4_readsSign_39 : decode cX4_readsSign 39 = .ok (.aload_n 0, 1) := by decide +kernel
theorem dX4_readsSign_40 : decode cX4_readsSign 40 = .ok (.iload_n 1, 1) := by decide +kernel
theorem dX4_readsSign_41 : decode cX4_readsSign 41 = .ok (.iload_n 2, 1) := by decide +kernel
theorem dX4_readsSign_42 : decode cX4_readsSign 42 = .ok (.invokevirtual 103, 3) := by decide +kernel
theorem dX4_readsSign_45 : decode cX4_readsSign 45 = .ok (.istore_n 3, 1) := by decide +kernel
theorem dX4_readsSign_46 : decode cX4_readsSign 46 = .ok (.iload_n 3, 1) := by decide +kernel
theorem dX4_readsSign_47 : decode cX4_readsSign 47 = .ok (.bipush 112, 2) := by decide +kernel
theorem dX4_readsSign_49 : decode cX4_readsSign 49 = .ok (.if_icmp .eq 17, 3) := by decide +kernel
theorem dX4_readsSign_52 : decode cX4_readsSign 52 = .ok (.iload_n 3, 1) := by decide +kernel
theorem dX4_readsSign_53 : decode cX4_readsSign 53 = .ok (.bipush 102, 2) := by decide +kernel
theorem dX4_readsSign_55 : decode cX4_readsSign 55 = .ok (.if_icmp .eq 11, 3) := by decide +kernel
theorem dX4_readsSign_58 : decode cX4_readsSign 58 = .ok (.iload_n 3, 1) := by decide +kernel
theorem dX4_readsSign_59 : decode cX4_readsSign 59 = .ok (.bipush 115, 2) := by decide +kernel
theorem dX4_readsSign_61 : decode cX4_readsSign 61 = .ok (.if_icmp .eq 5, 3) := by decide +kernel
theorem dX4_readsSign_64 : decode cX4_readsSign 64 = .ok (.iconst 0, 1) := by decide +kernel
theorem dX4_readsSign_65 : decode cX4_readsSign 65 = .ok (.ireturn, 1) := by decide +kernel
theorem dX4_readsSign_66 : decode cX4_readsSign 66 = .ok (.aload_n 0, 1) := by decide +kernel
theorem dX4_readsSign_67 : decode cX4_readsSign 67 = .ok (.dup, 1) := by decide +kernel
theorem dX4_readsSign_68 : decode cX4_readsSign 68 = .ok (.getfield 97, 3) := by decide +kernel
theorem dX4_readsSign_71 : decode cX4_readsSign 71 = .ok (.iconst 1, 1) := by decide +kernel
theorem dX4_readsSign_72 : decode cX4_readsSign 72 = .ok (.iadd, 1) := by decide +kernel
theorem dX4_readsSign_73 : decode cX4_readsSign 73 = .ok (.putfield 97, 3) := by decide +kernel
theorem dX4_readsSign_76 : decode cX4_readsSign 76 = .ok (.iconst 0, 1) := by decide +kernel
theorem dX4_readsSign_77 : decode cX4_readsSign 77 = .ok (.istore 4, 2) := by decide +kernel
theorem dX4_readsSign_79 : decode cX4_readsSign 79 = .ok (.iload 4, 2) := by decide +kernel
theorem dX4_readsSign_81 : decode cX4_readsSign 81 = .ok (.bipush 9, 2) := by decide +kernel
theorem dX4_readsSign_83 : decode cX4_readsSign 83 = .ok (.if_icmp .ge 62, 3) := by decide +kernel
theorem dX4_readsSign_86 : decode cX4_readsSign 86 = .ok (.aload_n 0, 1) := by decide +kernel
theorem dX4_readsSign_87 : decode cX4_readsSign 87 = .ok (.iload_n 1, 1) := by decide +kernel
theorem dX4_readsSign_88 : decode cX4_readsSign 88 = .ok (.iload_n 2, 1) := by decide +kernel
theorem dX4_readsSign_89 : decode cX4_readsSign 89 = .ok (.invokevirtual 103, 3) := by decide +kernel
theorem dX4_readsSign_92 : decode cX4_readsSign 92 = .ok (.bipush 48, 2) := by decide +kernel
theorem dX4_readsSign_94 : decode cX4_readsSign 94 = .ok (.isub, 1) := by decide +kernel
theorem dX4_readsSign_95 : decode cX4_readsSign 95 = .ok (.istore 5, 2) := by decide +kernel
theorem dX4_readsSign_97 : decode cX4_readsSign 97 = .ok (.iload 5, 2) := by decide +kernel
theorem dX4_readsSign_99 : decode cX4_readsSign 99 = .ok (.i2l, 1) := by decide +kernel
theorem dX4_readsSign_100 : decode cX4_readsSign 100 = .ok (.lconst 0, 1) := by decide +kernel
theorem dX4_readsSign_101 : decode cX4_readsSign 101 = .ok (.ldc2_w 107, 3) := by decide +kernel
theorem dX4_readsSign_104 : decode cX4_readsSign 104 = .ok (.invokestatic 81, 3) := by decide +kernel
theorem dX4_readsSign_107 : decode cX4_readsSign 107 = .ok (.ifCond .ne 5, 3) := by decide +kernel
theorem dX4_readsSign_110 : decode cX4_readsSign 110 = .ok (.iconst 0, 1) := by decide +kernel
theorem dX4_readsSign_111 : decode cX4_readsSign 111 = .ok (.ireturn, 1) := by decide +kernel
theorem dX4_readsSign_112 : decode cX4_readsSign 112 = .ok (.aload_n 0, 1) := by decide +kernel
theorem dX4_readsSign_113 : decode cX4_readsSign 113 = .ok (.getfield 22, 3) := by decide +kernel
theorem dX4_readsSign_116 : decode cX4_readsSign 116 = .ok (.bipush 9, 2) := by decide +kernel
theorem dX4_readsSign_118 : decode cX4_readsSign 118 = .ok (.aload_n 0, 1) := by decide +kernel
theorem dX4_readsSign_119 : decode cX4_readsSign 119 = .ok (.getfield 100, 3) := by decide +kernel
theorem dX4_readsSign_122 : decode cX4_readsSign 122 = .ok (.imul, 1) := by decide +kernel
theorem dX4_readsSign_123 : decode cX4_readsSign 123 = .ok (.iload 4, 2) := by decide +kernel
theorem dX4_readsSign_125 : decode cX4_readsSign 125 = .ok (.iadd, 1) := by decide +kernel
theorem dX4_readsSign_126 : decode cX4_readsSign 126 = .ok (.iload 5, 2) := by decide +kernel
theorem dX4_readsSign_128 : decode cX4_readsSign 128 = .ok (.iastore, 1) := by decide +kernel
theorem dX4_readsSign_129 : decode cX4_readsSign 129 = .ok (.aload_n 0, 1) := by decide +kernel
theorem dX4_readsSign_130 : decode cX4_readsSign 130 = .ok (.dup, 1) := by decide +kernel
theorem dX4_readsSign_131 : decode cX4_readsSign 131 = .ok (.getfield 97, 3) := by decide +kernel
theorem dX4_readsSign_134 : decode cX4_readsSign 134 = .ok (.iconst 1, 1) := by decide +kernel
theorem dX4_readsSign_135 : decode cX4_readsSign 135 = .ok (.iadd, 1) := by decide +kernel
theorem dX4_readsSign_136 : decode cX4_readsSign 136 = .ok (.putfield 97, 3) := by decide +kernel
theorem dX4_readsSign_139 : decode cX4_readsSign 139 = .ok (.iinc 4 1, 3) := by decide +kernel
theorem dX4_readsSign_142 : decode cX4_readsSign 142 = .ok (.goto (-63), 3) := by decide +kernel
theorem dX4_readsSign_145 : decode cX4_readsSign 145 = .ok (.aload_n 0, 1) := by decide +kernel
theorem dX4_readsSign_146 : decode cX4_readsSign 146 = .ok (.getfield 19, 3) := by decide +kernel
theorem dX4_readsSign_149 : decode cX4_readsSign 149 = .ok (.aload_n 0, 1) := by decide +kernel
theorem dX4_readsSign_150 : decode cX4_readsSign 150 = .ok (.getfield 100, 3) := by decide +kernel
theorem dX4_readsSign_153 : decode cX4_readsSign 153 = .ok (.iload_n 3, 1) := by decide +kernel
theorem dX4_readsSign_154 : decode cX4_readsSign 154 = .ok (.bipush 112, 2) := by decide +kernel
theorem dX4_readsSign_156 : decode cX4_readsSign 156 = .ok (.if_icmp .ne 7, 3) := by decide +kernel
theorem dX4_readsSign_159 : decode cX4_readsSign 159 = .ok (.iconst 0, 1) := by decide +kernel
theorem dX4_readsSign_160 : decode cX4_readsSign 160 = .ok (.goto 14, 3) := by decide +kernel
theorem dX4_readsSign_163 : decode cX4_readsSign 163 = .ok (.iload_n 3, 1) := by decide +kernel
theorem dX4_readsSign_164 : decode cX4_readsSign 164 = .ok (.bipush 102, 2) := by decide +kernel
theorem dX4_readsSign_166 : decode cX4_readsSign 166 = .ok (.if_icmp .ne 7, 3) := by decide +kernel
theorem dX4_readsSign_169 : decode cX4_readsSign 169 = .ok (.iconst 1, 1) := by decide +kernel
theorem dX4_readsSign_170 : decode cX4_readsSign 170 = .ok (.goto 4, 3) := by decide +kernel
theorem dX4_readsSign_173 : decode cX4_readsSign 173 = .ok (.iconst 2, 1) := by decide +kernel
theorem dX4_readsSign_174 : decode cX4_readsSign 174 = .ok (.iastore, 1) := by decide +kernel
theorem dX4_readsSign_175 : decode cX4_readsSign 175 = .ok (.aload_n 0, 1) := by decide +kernel
theorem dX4_readsSign_176 : decode cX4_readsSign 176 = .ok (.dup, 1) := by decide +kernel
theorem dX4_readsSign_177 : decode cX4_readsSign 177 = .ok (.getfield 100, 3) := by decide +kernel
theorem dX4_readsSign_180 : decode cX4_readsSign 180 = .ok (.iconst 1, 1) := by decide +kernel
theorem dX4_readsSign_181 : decode cX4_readsSign 181 = .ok (.iadd, 1) := by decide +kernel
theorem dX4_readsSign_182 : decode cX4_readsSign 182 = .ok (.putfield 100, 3) := by decide +kernel
theorem dX4_readsSign_185 : decode cX4_readsSign 185 = .ok (.iconst 1, 1) := by decide +kernel
theorem dX4_readsSign_186 : decode cX4_readsSign 186 = .ok (.ireturn, 1) := by decide +kernel
set_option maxRecDepth 20000 in
theorem ggX4_readsRegister_X4_readsSign : GoodIn wsX4_readsRegister wsX4_readsSign := goodIn_r _ [7, 2, 1, 8, 9, 10, 11, 12, 13, 6, 14, 15, 16, 17, 18, 19, 20, 21, 22, 23, 24, 25, 26, 27, 28, 29, 30, 31, 32, 33, 34, 35, 36, 37, 38, 39, 40, 41, 42, 43] (by decide +kernel) (by decide +kernel)
set_option maxRecDepth 20000 in
theorem gX4_readsRegister_X4_readsSign : GoodIn wsX4_readsRegister (wsV RX4 109 RX4 yX4_readsSign wsX4_readsSign) := goodIn_app (goodIn_of _ (by decide +kernel)) ggX4_readsRegister_X4_readsSign
theorem dX4_readsRegister_0 : decode cX4_readsRegister 0 = .ok (.aload_n 0, 1) := by decide +kernel
theorem dX4_readsRegister_1 : decode cX4_readsRegister 1 = .ok (.iconst 0, 1) := by decide +kernel
theorem dX4_readsRegister_2 : decode cX4_readsRegister 2 = .ok (.putfield 97, 3) := by decide +kernel
theorem dX4_readsRegister_5 : decode cX4_readsRegister 5 = .ok (.aload_n 0, 1) := by decide +kernel
theorem dX4_readsRegister_6 : decode cX4_readsRegister 6 = .ok (.iconst 0, 1) := by decide +kernel
theorem dX4_readsRegister_7 : decode cX4_readsRegister 7 = .ok (.putfield 100, 3) := by decide +kernel
theorem dX4_readsRegister_10 : decode cX4_readsRegister 10 = .ok (.iconst 1, 1) := by decide +kernel
theorem dX4_readsRegister_11 : decode cX4_readsRegister 11 = .ok (.istore_n 3, 1) := by decide +kernel
theorem dX4_readsRegister_12 : decode cX4_readsRegister 12 = .ok (.iload_n 3, 1) := by decide +kernel
theorem dX4_readsRegister_13 : decode cX4_readsRegister 13 = .ok (.ifCond .eq 29, 3) := by decide +kernel
theorem dX4_readsRegister_16 : decode cX4_readsRegister 16 = .ok (.aload_n 0, 1) := by decide +kernel
theorem dX4_readsRegister_17 : decode cX4_readsRegister 17 = .ok (.getfield 100, 3) := by decide +kernel
theorem dX4_readsRegister_20 : decode cX4_readsRegister 20 = .ok (.iconst 2, 1) := by decide +kernel
theorem dX4_readsRegister_21 : decode cX4_readsRegister 21 = .ok (.if_icmp .lt 11, 3) := by decide +kernel
theorem dX4_readsRegister_24 : decode cX4_readsRegister 24 = .ok (.aload_n 0, 1) := by decide +kernel
theorem dX4_readsRegister_25 : decode cX4_readsRegister 25 = .ok (.getfield 97, 3) := by decide +kernel
theorem dX4_readsRegister_28 : decode cX4_readsRegister 28 = .ok (.iload_n 2, 1) := by decide +kernel
theorem dX4_readsRegister_29 : decode cX4_readsRegister 29 = .ok (.if_icmp .ge 13, 3) := by decide +kernel
theorem dX4_readsRegister_32 : decode cX4_readsRegister 32 = .ok (.aload_n 0, 1) := by decide +kernel
theorem dX4_readsRegister_33 : decode cX4_readsRegister 33 = .ok (.iload_n 1, 1) := by decide +kernel
theorem dX4_readsRegister_34 : decode cX4_readsRegister 34 = .ok (.iload_n 2, 1) := by decide +kernel
theorem dX4_readsRegister_35 : decode cX4_readsRegister 35 = .ok (.invokevirtual 109, 3) := by decide +kernel
theorem dX4_readsRegister_38 : decode cX4_readsRegister 38 = .ok (.istore_n 3, 1) := by decide +kernel
theorem dX4_readsRegister_39 : decode cX4_readsRegister 39 = .ok (.goto (-27), 3) := by decide +kernel
theorem dX4_readsRegister_42 : decode cX4_readsRegister 42 = .ok (.iload_n 3, 1) := by decide +kernel
theorem dX4_readsRegister_43 : decode cX4_readsRegister 43 = .ok (.ireturn, 1) := by decide +kernel
set_option maxRecDepth 20000 in
theorem ggX4_register_X4_barred : GoodIn wsX4_register wsX4_barred := goodIn_r _ [16, 17, 18, 19, 20, 21, 15, 22, 23, 24, 25, 26, 27, 28, 29, 30, 31, 32, 33, 34, 35, 36, 37, 38, 53, 54, 55, 56, 57, 58, 59, 60, 61, 62, 63, 64, 65, 66, 67, 68, 69, 70, 71, 72, 73, 74, 75, 76, 77] (by decide +kernel) (by decide +kernel)
set_option maxRecDepth 20000 in
theorem gX4_register_X4_barred : GoodIn wsX4_register (wsV RX4 113 RX4 yX4_barred wsX4_barred) := goodIn_app (goodIn_of _ (by decide +kernel)) ggX4_register_X4_barred
set_option maxRecDepth 20000 in
theorem ggX4_register_X4_readsRegister : GoodIn wsX4_register wsX4_readsRegister := goodIn_r _ [42, 1, 2, 43, 44, 45, 15, 46, 47, 7, 5, 48, 49, 50, 51, 52, 24, 25, 26, 53, 54, 55, 56, 57, 58, 59, 60, 61, 62, 63, 64, 65, 66, 67, 68, 69, 70, 71, 72, 73, 74, 75, 76, 77] (by decide +kernel) (by decide +kernel)
set_option maxRecDepth 20000 in
theorem gX4_register_X4_readsRegister : GoodIn wsX4_register (wsV RX4 117 RX4 yX4_readsRegister wsX4_readsRegister) := goodIn_app (goodIn_of _ (by decide +kernel)) ggX4_register_X4_readsRegister
set_option maxRecDepth 20000 in
theorem ggX4_register_X4_refused : GoodIn wsX4_register wsX4_refused := goodIn_r _ [30, 31, 53, 54, 55, 56, 57, 58, 59, 60, 61, 62, 63, 64, 65, 66, 67, 68, 69, 70, 71, 72, 73, 74, 75, 76, 77] (by decide +kernel) (by decide +kernel)
set_option maxRecDepth 20000 in
theorem gX4_register_X4_refused : GoodIn wsX4_register (wsV RX4 75 RX4 yX4_refused wsX4_refused) := goodIn_app (goodIn_of _ (by decide +kernel)) ggX4_register_X4_refused
theorem dX4_register_0 : decode cX4_register 0 = .ok (.aload_n 0, 1) := by decide +kernel
theorem dX4_register_1 : decode cX4_register 1 = .ok (.iload_n 1, 1) := by decide +kernel
theorem dX4_register_2 : decode cX4_register 2 = .ok (.iload_n 2, 1) := by decide +kernel
theorem dX4_register_3 : decode cX4_register 3 = .ok (.iload_n 3, 1) := by decide +kernel
theorem dX4_register_4 : decode cX4_register 4 = .ok (.iload 4, 2) := by decide +kernel
theorem dX4_register_6 : decode cX4_register 6 = .ok (.i2l, 1) := by decide +kernel
theorem dX4_register_7 : decode cX4_register 7 = .ok (.invokevirtual 113, 3) := by decide +kernel
theorem dX4_register_10 : decode cX4_register 10 = .ok (.istore 5, 2) := by decide +kernel
theorem dX4_register_12 : decode cX4_register 12 = .ok (.iload 5, 2) := by decide +kernel
theorem dX4_register_14 : decode cX4_register 14 = .ok (.ifCond .ge 6, 3) := by decide +kernel
theorem dX4_register_17 : decode cX4_register 17 = .ok (.iload 5, 2) := by decide +kernel
theorem dX4_register_19 : decode cX4_register 19 = .ok (.ireturn, 1) := by decide +kernel
theorem dX4_register_20 : decode cX4_register 20 = .ok (.aload_n 0, 1) := by decide +kernel
theorem dX4_register_21 : decode cX4_register 21 = .ok (.bipush 90, 2) := by decide +kernel
theorem dX4_register_23 : decode cX4_register 23 = .ok (.iload_n 1, 1) := by decide +kernel
theorem dX4_register_24 : decode cX4_register 24 = .ok (.imul, 1) := by decide +kernel
theorem dX4_register_25 : decode cX4_register 25 = .ok (.iload_n 3, 1) := by decide +kernel
theorem dX4_register_26 : decode cX4_register 26 = .ok (.iadd, 1) := by decide +kernel
theorem dX4_register_27 : decode cX4_register 27 = .ok (.iload 4, 2) := by decide +kernel
theorem dX4_register_29 : decode cX4_register 29 = .ok (.invokevirtual 117, 3) := by decide +kernel
theorem dX4_register_32 : decode cX4_register 32 = .ok (.ifCond .ne 15, 3) := by decide +kernel
theorem dX4_register_35 : decode cX4_register 35 = .ok (.aload_n 0, 1) := by decide +kernel
theorem dX4_register_36 : decode cX4_register 36 = .ok (.bipush (-100), 2) := by decide +kernel
theorem dX4_register_38 : decode cX4_register 38 = .ok (.aload_n 0, 1) := by decide +kernel
theorem dX4_register_39 : decode cX4_register 39 = .ok (.getfield 97, 3) := by decide +kernel
theorem dX4_register_42 : decode cX4_register 42 = .ok (.isub, 1) := by decide +kernel
theorem dX4_register_43 : decode cX4_register 43 = .ok (.invokevirtual 75, 3) := by decide +kernel
theorem dX4_register_46 : decode cX4_register 46 = .ok (.ireturn, 1) := by decide +kernel
theorem dX4_register_47 : decode cX4_register 47 = .ok (.aload_n 0, 1) := by decide +kernel
theorem dX4_register_48 : decode cX4_register 48 = .ok (.aload_n 0, 1) := by decide +kernel
theorem dX4_register_49 : decode cX4_register 49 = .ok (.getfield 100, 3) := by decide +kernel
theorem dX4_register_52 : decode cX4_register 52 = .ok (.putfield 92, 3) := by decide +kernel
theorem dX4_register_55 : decode cX4_register 55 = .ok (.iconst 0, 1) := by decide +kernel
theorem dX4_register_56 : decode cX4_register 56 = .ok (.istore 6, 2) := by decide +kernel
theorem dX4_register_58 : decode cX4_register 58 = .ok (.iload 6, 2) := by decide +kernel
theorem dX4_register_60 : decode cX4_register 60 = .ok (.aload_n 0, 1) := by decide +kernel
theorem dX4_register_61 : decode cX4_register 61 = .ok (.getfield 92, 3) := by decide +kernel
theorem dX4_register_64 : decode cX4_register 64 = .ok (.if_icmp .ge 23, 3) := by decide +kernel
theorem dX4_register_67 : decode cX4_register 67 = .ok (.aload_n 0, 1) := by decide +kernel
theorem dX4_register_68 : decode cX4_register 68 = .ok (.getfield 7, 3) := by decide +kernel
theorem dX4_register_71 : decode cX4_register 71 = .ok (.iload 6, 2) := by decide +kernel
theorem dX4_register_73 : decode cX4_register 73 = .ok (.aload_n 0, 1) := by decide +kernel
theorem dX4_register_74 : decode cX4_register 74 = .ok (.getfield 19, 3) := by decide +kernel
theorem dX4_register_77 : decode cX4_register 77 = .ok (.iload 6, 2) := by decide +kernel
theorem dX4_register_79 : decode cX4_register 79 = .ok (.iaload, 1) := by decide +kernel
theorem dX4_register_80 : decode cX4_register 80 = .ok (.iastore, 1) := by decide +kernel
theorem dX4_register_81 : decode cX4_register 81 = .ok (.iinc 6 1, 3) := by decide +kernel
theorem dX4_register_84 : decode cX4_register 84 = .ok (.goto (-26), 3) := by decide +kernel
theorem dX4_register_87 : decode cX4_register 87 = .ok (.iconst 0, 1) := by decide +kernel
theorem dX4_register_88 : decode cX4_register 88 = .ok (.istore 6, 2) := by decide +kernel
theorem dX4_register_90 : decode cX4_register 90 = .ok (.iload 6, 2) := by decide +kernel
theorem dX4_register_92 : decode cX4_register 92 = .ok (.bipush 72, 2) := by decide +kernel
theorem dX4_register_94 : decode cX4_register 94 = .ok (.if_icmp .ge 23, 3) := by decide +kernel
theorem dX4_register_97 : decode cX4_register 97 = .ok (.aload_n 0, 1) := by decide +kernel
theorem dX4_register_98 : decode cX4_register 98 = .ok (.getfield 13, 3) := by decide +kernel
theorem dX4_register_101 : decode cX4_register 101 = .ok (.iload 6, 2) := by decide +kernel
theorem dX4_register_103 : decode cX4_register 103 = .ok (.aload_n 0, 1) := by decide +kernel
theorem dX4_register_104 : decode cX4_register 104 = .ok (.getfield 22, 3) := by decide +kernel
theorem dX4_register_107 : decode cX4_register 107 = .ok (.iload 6, 2) := by decide +kernel
theorem dX4_register_109 : decode cX4_register 109 = .ok (.iaload, 1) := by decide +kernel
theorem dX4_register_110 : decode cX4_register 110 = .ok (.iastore, 1) := by decide +kernel
theorem dX4_register_111 : decode cX4_register 111 = .ok (.iinc 6 1, 3) := by decide +kernel
theorem dX4_register_114 : decode cX4_register 114 = .ok (.goto (-24), 3) := by decide +kernel
theorem dX4_register_117 : decode cX4_register 117 = .ok (.iconst 0, 1) := by decide +kernel
theorem dX4_register_118 : decode cX4_register 118 = .ok (.istore 6, 2) := by decide +kernel
theorem dX4_register_120 : decode cX4_register 120 = .ok (.iload 6, 2) := by decide +kernel
theorem dX4_register_122 : decode cX4_register 122 = .ok (.bipush 9, 2) := by decide +kernel
theorem dX4_register_124 : decode cX4_register 124 = .ok (.if_icmp .ge 17, 3) := by decide +kernel
theorem dX4_register_127 : decode cX4_register 127 = .ok (.aload_n 0, 1) := by decide +kernel
theorem dX4_register_128 : decode cX4_register 128 = .ok (.getfield 16, 3) := by decide +kernel
theorem dX4_register_131 : decode cX4_register 131 = .ok (.iload 6, 2) := by decide +kernel
theorem dX4_register_133 : decode cX4_register 133 = .ok (.iconst 5, 1) := by decide +kernel
theorem dX4_register_134 : decode cX4_register 134 = .ok (.iastore, 1) := by decide +kernel
theorem dX4_register_135 : decode cX4_register 135 = .ok (.iinc 6 1, 3) := by decide +kernel
theorem dX4_register_138 : decode cX4_register 138 = .ok (.goto (-18), 3) := by decide +kernel
theorem dX4_register_141 : decode cX4_register 141 = .ok (.aload_n 0, 1) := by decide +kernel
theorem dX4_register_142 : decode cX4_register 142 = .ok (.iconst 0, 1) := by decide +kernel
theorem dX4_register_143 : decode cX4_register 143 = .ok (.putfield 120, 3) := by decide +kernel
theorem dX4_register_146 : decode cX4_register 146 = .ok (.aload_n 0, 1) := by decide +kernel
theorem dX4_register_147 : decode cX4_register 147 = .ok (.iconst 0, 1) := by decide +kernel
theorem dX4_register_148 : decode cX4_register 148 = .ok (.putfield 123, 3) := by decide +kernel
theorem dX4_register_151 : decode cX4_register 151 = .ok (.aload_n 0, 1) := by decide +kernel
theorem dX4_register_152 : decode cX4_register 152 = .ok (.bipush 40, 2) := by decide +kernel
theorem dX4_register_154 : decode cX4_register 154 = .ok (.putfield 126, 3) := by decide +kernel
theorem dX4_register_157 : decode cX4_register 157 = .ok (.aload_n 0, 1) := by decide +kernel
theorem dX4_register_158 : decode cX4_register 158 = .ok (.aload_n 0, 1) := by decide +kernel
theorem dX4_register_159 : decode cX4_register 159 = .ok (.getfield 92, 3) := by decide +kernel
theorem dX4_register_162 : decode cX4_register 162 = .ok (.invokevirtual 75, 3) := by decide +kernel
theorem dX4_register_165 : decode cX4_register 165 = .ok (.ireturn, 1) := by decide +kernel
theorem dX4_strong_0 : decode cX4_strong 0 = .ok (.aload_n 0, 1) := by decide +kernel
theorem dX4_strong_1 : decode cX4_strong 1 = .ok (.getfield 13, 3) := by decide +kernel
theorem dX4_strong_4 : decode cX4_strong 4 = .ok (.bipush 9, 2) := by decide +kernel
theorem dX4_strong_6 : decode cX4_strong 6 = .ok (.iload_n 1, 1) := by decide +kernel
theorem dX4_strong_7 : decode cX4_strong 7 = .ok (.imul, 1) := by decide +kernel
theorem dX4_strong_8 : decode cX4_strong 8 = .ok (.iload_n 2, 1) := by decide +kernel
theorem dX4_strong_9 : decode cX4_strong 9 = .ok (.iadd, 1) := by decide +kernel
theorem dX4_strong_10 : decode cX4_strong 10 = .ok (.iaload, 1) := by decide +kernel
theorem dX4_strong_11 : decode cX4_strong 11 = .ok (.ireturn, 1) := by decide +kernel
set_option maxRecDepth 20000 in
theorem ggX4_ofSign_X4_noSign : GoodIn wsX4_ofSign wsX4_noSign := goodIn_r _ [6, 7, 8, 9, 5, 10, 20, 21, 22, 23, 24, 25, 26, 27, 28, 29, 30, 31, 32, 33, 34, 35, 36, 37, 38, 39, 40, 41, 42, 43, 44] (by decide +kernel) (by decide +kernel)
set_option maxRecDepth 20000 in
theorem gX4_ofSign_X4_noSign : GoodIn wsX4_ofSign (wsV RX4 129 RX4 yX4_noSign wsX4_noSign) := goodIn_app (goodIn_of _ (by decide +kernel)) ggX4_ofSign_X4_noSign
set_option maxRecDepth 20000 in
theorem ggX4_ofSign_X4_noSmell : GoodIn wsX4_ofSign wsX4_noSmell := goodIn_r _ [13, 14, 8, 9, 5, 10] (by decide +kernel) (by decide +kernel)
set_option maxRecDepth 20000 in
theorem gX4_ofSign_X4_noSmell : GoodIn wsX4_ofSign (va_wsS RX4 132 yX4_noSmell wsX4_noSmell) := goodIn_app (goodIn_of _ (by decide +kernel)) ggX4_ofSign_X4_noSmell
set_option maxRecDepth 20000 in
theorem ggX4_ofSign_X4_strong : GoodIn wsX4_ofSign wsX4_strong := goodIn_r _ [18, 19, 20, 21, 22, 23, 24, 25, 26, 27, 28, 29, 30, 31, 32, 33, 34, 35, 36, 37, 38, 39, 40, 41, 42, 43, 44] (by decide +kernel) (by decide +kernel)
set_option maxRecDepth 20000 in
theorem gX4_ofSign_X4_strong : GoodIn wsX4_ofSign (wsV RX4 135 RX4 yX4_strong wsX4_strong) := goodIn_app (goodIn_of _ (by decide +kernel)) ggX4_ofSign_X4_strong
theorem dX4_ofSign_0 : decode cX4_ofSign 0 = .ok (.aload_n 0, 1) := by decide +kernel
theorem dX4_ofSign_1 : decode cX4_ofSign 1 = .ok (.iload_n 1, 1) := by decide +kernel
theorem dX4_ofSign_2 : decode cX4_ofSign 2 = .ok (.invokevirtual 129, 3) := by decide +kernel
theorem dX4_ofSign_5 : decode cX4_ofSign 5 = .ok (.ifCond .eq 5, 3) := by decide +kernel
theorem dX4_ofSign_8 : decode cX4_ofSign 8 = .ok (.iconst (-1), 1) := by decide +kernel
theorem dX4_ofSign_9 : decode cX4_ofSign 9 = .ok (.ireturn, 1) := by decide +kernel
theorem dX4_ofSign_10 : decode cX4_ofSign 10 = .ok (.iload_n 2, 1) := by decide +kernel
theorem dX4_ofSign_11 : decode cX4_ofSign 11 = .ok (.iconst (-1), 1) := by decide +kernel
theorem dX4_ofSign_12 : decode cX4_ofSign 12 = .ok (.if_icmp .ne 12, 3) := by decide +kernel
theorem dX4_ofSign_15 : decode cX4_ofSign 15 = .ok (.aload_n 0, 1) := by decide +kernel
theorem dX4_ofSign_16 : decode cX4_ofSign 16 = .ok (.getfield 7, 3) := by decide +kernel
theorem dX4_ofSign_19 : decode cX4_ofSign 19 = .ok (.iload_n 1, 1) := by decide +kernel
theorem dX4_ofSign_20 : decode cX4_ofSign 20 = .ok (.iaload, 1) := by decide +kernel
theorem dX4_ofSign_21 : decode cX4_ofSign 21 = .ok (.goto 21, 3) := by decide +kernel
theorem dX4_ofSign_24 : decode cX4_ofSign 24 = .ok (.iload_n 2, 1) := by decide +kernel
theorem dX4_ofSign_25 : decode cX4_ofSign 25 = .ok (.invokestatic 132, 3) := by decide +kernel
theorem dX4_ofSign_28 : decode cX4_ofSign 28 = .ok (.ifCond .eq 8, 3) := by decide +kernel
theorem dX4_ofSign_31 : decode cX4_ofSign 31 = .ok (.bipush (-2), 2) := by decide +kernel
theorem dX4_ofSign_33 : decode cX4_ofSign 33 = .ok (.goto 9, 3) := by decide +kernel
theorem dX4_ofSign_36 : decode cX4_ofSign 36 = .ok (.aload_n 0, 1) := by decide +kernel
theorem dX4_ofSign_37 : decode cX4_ofSign 37 = .ok (.iload_n 1, 1) := by decide +kernel
theorem dX4_ofSign_38 : decode cX4_ofSign 38 = .ok (.iload_n 2, 1) := by decide +kernel
theorem dX4_ofSign_39 : decode cX4_ofSign 39 = .ok (.invokevirtual 135, 3) := by decide +kernel
theorem dX4_ofSign_42 : decode cX4_ofSign 42 = .ok (.ireturn, 1) := by decide +kernel
set_option maxRecDepth 20000 in
theorem ggX4_half_X4_noSmell : GoodIn wsX4_half wsX4_noSmell := goodIn_r _ [7, 8, 9, 10, 6, 11] (by decide +kernel) (by decide +kernel)
set_option maxRecDepth 20000 in
theorem gX4_half_X4_noSmell : GoodIn wsX4_half (va_wsS RX4 132 yX4_noSmell wsX4_noSmell) := goodIn_app (goodIn_of _ (by decide +kernel)) ggX4_half_X4_noSmell
set_option maxRecDepth 20000 in
theorem ggX4_half_X4_in : GoodIn wsX4_half wsX4_in := goodIn_r _ [11] (by decide +kernel) (by decide +kernel)
set_option maxRecDepth 20000 in
theorem gX4_half_X4_in : GoodIn wsX4_half (va_wsS RX4 81 yX4_in wsX4_in) := goodIn_app (goodIn_of _ (by decide +kernel)) ggX4_half_X4_in
theorem dX4_half_0 : decode cX4_half 0 = .ok (.iload_n 1, 1) := by decide +kernel
theorem dX4_half_1 : decode cX4_half 1 = .ok (.invokestatic 132, 3) := by decide +kernel
theorem dX4_half_4 : decode cX4_half 4 = .ok (.ifCond .eq 5, 3) := by decide +kernel
theorem dX4_half_7 : decode cX4_half 7 = .ok (.iconst (-1), 1) := by decide +kernel
theorem dX4_half_8 : decode cX4_half 8 = .ok (.ireturn, 1) := by decide +kernel
theorem dX4_half_9 : decode cX4_half 9 = .ok (.iload_n 2, 1) := by decide +kernel
theorem dX4_half_10 : decode cX4_half 10 = .ok (.i2l, 1) := by decide +kernel
theorem dX4_half_11 : decode cX4_half 11 = .ok (.lconst 1, 1) := by decide +kernel
theorem dX4_half_12 : decode cX4_half 12 = .ok (.ldc2_w 107, 3) := by decide +kernel
theorem dX4_half_15 : decode cX4_half 15 = .ok (.invokestatic 81, 3) := by decide +kernel
theorem dX4_half_18 : decode cX4_half 18 = .ok (.ifCond .ne 6, 3) := by decide +kernel
theorem dX4_half_21 : decode cX4_half 21 = .ok (.bipush (-2), 2) := by decide +kernel
theorem dX4_half_23 : decode cX4_half 23 = .ok (.ireturn, 1) := by decide +kernel
theorem dX4_half_24 : decode cX4_half 24 = .ok (.aload_n 0, 1) := by decide +kernel
theorem dX4_half_25 : decode cX4_half 25 = .ok (.getfield 92, 3) := by decide +kernel
theorem dX4_half_28 : decode cX4_half 28 = .ok (.ifCond .ne 6, 3) := by decide +kernel
theorem dX4_half_31 : decode cX4_half 31 = .ok (.bipush (-3), 2) := by decide +kernel
theorem dX4_half_33 : decode cX4_half 33 = .ok (.ireturn, 1) := by decide +kernel
theorem dX4_half_34 : decode cX4_half 34 = .ok (.aload_n 0, 1) := by decide +kernel
theorem dX4_half_35 : decode cX4_half 35 = .ok (.getfield 16, 3) := by decide +kernel
theorem dX4_half_38 : decode cX4_half 38 = .ok (.iload_n 1, 1) := by decide +kernel
theorem dX4_half_39 : decode cX4_half 39 = .ok (.iaload, 1) := by decide +kernel
theorem dX4_half_40 : decode cX4_half 40 = .ok (.istore_n 3, 1) := by decide +kernel
theorem dX4_half_41 : decode cX4_half 41 = .ok (.aload_n 0, 1) := by decide +kernel
theorem dX4_half_42 : decode cX4_half 42 = .ok (.getfield 16, 3) := by decide +kernel
theorem dX4_half_45 : decode cX4_half 45 = .ok (.iload_n 1, 1) := by decide +kernel
theorem dX4_half_46 : decode cX4_half 46 = .ok (.iload_n 2, 1) := by decide +kernel
theorem dX4_half_47 : decode cX4_half 47 = .ok (.iastore, 1) := by decide +kernel
theorem dX4_half_48 : decode cX4_half 48 = .ok (.iload_n 3, 1) := by decide +kernel
theorem dX4_half_49 : decode cX4_half 49 = .ok (.ireturn, 1) := by decide +kernel
set_option maxRecDepth 20000 in
theorem ggX4_bound_X4_in : GoodIn wsX4_bound wsX4_in := goodIn_r _ [7] (by decide +kernel) (by decide +kernel)
set_option maxRecDepth 20000 in
theorem gX4_bound_X4_in : GoodIn wsX4_bound (va_wsS RX4 81 yX4_in wsX4_in) := goodIn_app (goodIn_of _ (by decide +kernel)) ggX4_bound_X4_in
theorem dX4_bound_0 : decode cX4_bound 0 = .ok (.iload_n 1, 1) := by decide +kernel
theorem dX4_bound_1 : decode cX4_bound 1 = .ok (.i2l, 1) := by decide +kernel
theorem dX4_bound_2 : decode cX4_bound 2 = .ok (.lconst 0, 1) := by decide +kernel
theorem dX4_bound_3 : decode cX4_bound 3 = .ok (.ldc2_w 138, 3) := by decide +kernel
theorem dX4_bound_6 : decode cX4_bound 6 = .ok (.invokestatic 81, 3) := by decide +kernel
theorem dX4_bound_9 : decode cX4_bound 9 = .ok (.ifCond .ne 6, 3) := by decide +kernel
theorem dX4_bound_12 : decode cX4_bound 12 = .ok (.bipush (-2), 2) := by decide +kernel
theorem dX4_bound_14 : decode cX4_bound 14 = .ok (.ireturn, 1) := by decide +kernel
theorem dX4_bound_15 : decode cX4_bound 15 = .ok (.aload_n 0, 1) := by decide +kernel
theorem dX4_bound_16 : decode cX4_bound 16 = .ok (.getfield 92, 3) := by decide +kernel
theorem dX4_bound_19 : decode cX4_bound 19 = .ok (.ifCond .ne 6, 3) := by decide +kernel
theorem dX4_bound_22 : decode cX4_bound 22 = .ok (.bipush (-3), 2) := by decide +kernel
theorem dX4_bound_24 : decode cX4_bound 24 = .ok (.ireturn, 1) := by decide +kernel
theorem dX4_bound_25 : decode cX4_bound 25 = .ok (.aload_n 0, 1) := by decide +kernel
theorem dX4_bound_26 : decode cX4_bound 26 = .ok (.getfield 126, 3) := by decide +kernel
theorem dX4_bound_29 : decode cX4_bound 29 = .ok (.istore_n 2, 1) := by decide +kernel
theorem dX4_bound_30 : decode cX4_bound 30 = .ok (.aload_n 0, 1) := by decide +kernel
theorem dX4_bound_31 : decode cX4_bound 31 = .ok (.iload_n 1, 1) := by decide +kernel
theorem dX4_bound_32 : decode cX4_bound 32 = .ok (.putfield 126, 3) := by decide +kernel
theorem dX4_bound_35 : decode cX4_bound 35 = .ok (.iload_n 2, 1) := by decide +kernel
theorem dX4_bound_36 : decode cX4_bound 36 = .ok (.ireturn, 1) := by decide +kernel
set_option maxRecDepth 20000 in
theorem ggX4_year_X4_in : GoodIn wsX4_year wsX4_in := goodIn_r _ [7] (by decide +kernel) (by decide +kernel)
set_option maxRecDepth 20000 in
theorem gX4_year_X4_in : GoodIn wsX4_year (va_wsS RX4 81 yX4_in wsX4_in) := goodIn_app (goodIn_of _ (by decide +kernel)) ggX4_year_X4_in
theorem dX4_year_0 : decode cX4_year 0 = .ok (.iload_n 1, 1) := by decide +kernel
theorem dX4_year_1 : decode cX4_year 1 = .ok (.i2l, 1) := by decide +kernel
theorem dX4_year_2 : decode cX4_year 2 = .ok (.aload_n 0, 1) := by decide +kernel
theorem dX4_year_3 : decode cX4_year 3 = .ok (.getfield 123, 3) := by decide +kernel
theorem dX4_year_6 : decode cX4_year 6 = .ok (.i2l, 1) := by decide +kernel
theorem dX4_year_7 : decode cX4_year 7 = .ok (.ldc2_w 140, 3) := by decide +kernel
theorem dX4_year_10 : decode cX4_year 10 = .ok (.invokestatic 81, 3) := by decide +kernel
theorem dX4_year_13 : decode cX4_year 13 = .ok (.ifCond .ne 6, 3) := by decide +kernel
theorem dX4_year_16 : decode cX4_year 16 = .ok (.bipush (-2), 2) := by decide +kernel
theorem dX4_year_18 : decode cX4_year 18 = .ok (.ireturn, 1) := by decide +kernel
theorem dX4_year_19 : decode cX4_year 19 = .ok (.aload_n 0, 1) := by decide +kernel
theorem dX4_year_20 : decode cX4_year 20 = .ok (.getfield 92, 3) := by decide +kernel
theorem dX4_year_23 : decode cX4_year 23 = .ok (.ifCond .ne 6, 3) := by decide +kernel
theorem dX4_year_26 : decode cX4_year 26 = .ok (.bipush (-3), 2) := by decide +kernel
theorem dX4_year_28 : decode cX4_year 28 = .ok (.ireturn, 1) := by decide +kernel
theorem dX4_year_29 : decode cX4_year 29 = .ok (.aload_n 0, 1) := by decide +kernel
theorem dX4_year_30 : decode cX4_year 30 = .ok (.getfield 123, 3) := by decide +kernel
theorem dX4_year_33 : decode cX4_year 33 = .ok (.istore_n 2, 1) := by decide +kernel
theorem dX4_year_34 : decode cX4_year 34 = .ok (.aload_n 0, 1) := by decide +kernel
theorem dX4_year_35 : decode cX4_year 35 = .ok (.iload_n 1, 1) := by decide +kernel
theorem dX4_year_36 : decode cX4_year 36 = .ok (.putfield 123, 3) := by decide +kernel
theorem dX4_year_39 : decode cX4_year 39 = .ok (.iload_n 2, 1) := by decide +kernel
theorem dX4_year_40 : decode cX4_year 40 = .ok (.ireturn, 1) := by decide +kernel
theorem dX4_fades_0 : decode cX4_fades 0 = .ok (.iload 4, 2) := by decide +kernel
theorem dX4_fades_2 : decode cX4_fades 2 = .ok (.aload_n 0, 1) := by decide +kernel
theorem dX4_fades_3 : decode cX4_fades 3 = .ok (.getfield 16, 3) := by decide +kernel
theorem dX4_fades_6 : decode cX4_fades 6 = .ok (.iload_n 2, 1) := by decide +kernel
theorem dX4_fades_7 : decode cX4_fades 7 = .ok (.iaload, 1) := by decide +kernel
theorem dX4_fades_8 : decode cX4_fades 8 = .ok (.idiv, 1) := by decide +kernel
theorem dX4_fades_9 : decode cX4_fades 9 = .ok (.istore 5, 2) := by decide +kernel
theorem dX4_fades_11 : decode cX4_fades 11 = .ok (.aload_n 0, 1) := by decide +kernel
theorem dX4_fades_12 : decode cX4_fades 12 = .ok (.getfield 7, 3) := by decide +kernel
theorem dX4_fades_15 : decode cX4_fades 15 = .ok (.iload_n 1, 1) := by decide +kernel
theorem dX4_fades_16 : decode cX4_fades 16 = .ok (.iaload, 1) := by decide +kernel
theorem dX4_fades_17 : decode cX4_fades 17 = .ok (.ifCond .ne 8, 3) := by decide +kernel
theorem dX4_fades_20 : decode cX4_fades 20 = .ok (.iload 5, 2) := by decide +kernel
theorem dX4_fades_22 : decode cX4_fades 22 = .ok (.goto 21, 3) := by decide +kernel
theorem dX4_fades_25 : decode cX4_fades 25 = .ok (.aload_n 0, 1) := by decide +kernel
theorem dX4_fades_26 : decode cX4_fades 26 = .ok (.getfield 7, 3) := by decide +kernel
theorem dX4_fades_29 : decode cX4_fades 29 = .ok (.iload_n 1, 1) := by decide +kernel
theorem dX4_fades_30 : decode cX4_fades 30 = .ok (.iaload, 1) := by decide +kernel
theorem dX4_fades_31 : decode cX4_fades 31 = .ok (.iconst 1, 1) := by decide +kernel
theorem dX4_fades_32 : decode cX4_fades 32 = .ok (.if_icmp .ne 10, 3) := by decide +kernel
theorem dX4_fades_35 : decode cX4_fades 35 = .ok (.iload 5, 2) := by decide +kernel
theorem dX4_fades_37 : decode cX4_fades 37 = .ok (.iconst 2, 1) := by decide +kernel
theorem dX4_fades_38 : decode cX4_fades 38 = .ok (.idiv, 1) := by decide +kernel
theorem dX4_fades_39 : decode cX4_fades 39 = .ok (.goto 4, 3) := by decide +kernel
theorem dX4_fades_42 : decode cX4_fades 42 = .ok (.iconst 0, 1) := by decide +kernel
theorem dX4_fades_43 : decode cX4_fades 43 = .ok (.istore 5, 2) := by decide +kernel
theorem dX4_fades_45 : decode cX4_fades 45 = .ok (.iload_n 3, 1) := by decide +kernel
theorem dX4_fades_46 : decode cX4_fades 46 = .ok (.istore 6, 2) := by decide +kernel
theorem dX4_fades_48 : decode cX4_fades 48 = .ok (.iconst 0, 1) := by decide +kernel
theorem dX4_fades_49 : decode cX4_fades 49 = .ok (.istore 7, 2) := by decide +kernel
theorem dX4_fades_51 : decode cX4_fades 51 = .ok (.iload 7, 2) := by decide +kernel
theorem dX4_fades_53 : decode cX4_fades 53 = .ok (.iload 5, 2) := by decide +kernel
theorem dX4_fades_55 : decode cX4_fades 55 = .ok (.if_icmp .ge 20, 3) := by decide +kernel
theorem dX4_fades_58 : decode cX4_fades 58 = .ok (.iload 6, 2) := by decide +kernel
theorem dX4_fades_60 : decode cX4_fades 60 = .ok (.ifCond .le 15, 3) := by decide +kernel
theorem dX4_fades_63 : decode cX4_fades 63 = .ok (.iload 6, 2) := by decide +kernel
theorem dX4_fades_65 : decode cX4_fades 65 = .ok (.iconst 2, 1) := by decide +kernel
theorem dX4_fades_66 : decode cX4_fades 66 = .ok (.idiv, 1) := by decide +kernel
theorem dX4_fades_67 : decode cX4_fades 67 = .ok (.istore 6, 2) := by decide +kernel
theorem dX4_fades_69 : decode cX4_fades 69 = .ok (.iinc 7 1, 3) := by decide +kernel
theorem dX4_fades_72 : decode cX4_fades 72 = .ok (.goto (-21), 3) := by decide +kernel
theorem dX4_fades_75 : decode cX4_fades 75 = .ok (.iload 6, 2) := by decide +kernel
theorem dX4_fades_77 : decode cX4_fades 77 = .ok (.ireturn, 1) := by decide +kernel
set_option maxRecDepth 20000 in
theorem ggX4_faded_X4_noSign : GoodIn wsX4_faded wsX4_noSign := goodIn_r _ [7, 8, 9, 10, 6, 11, 22, 23, 24, 25, 26, 27, 28, 29, 30, 31, 32, 33, 34, 35, 36, 37, 38, 39, 40, 41, 42, 43, 44, 45, 46] (by decide +kernel) (by decide +kernel)
set_option maxRecDepth 20000 in
theorem gX4_faded_X4_noSign : GoodIn wsX4_faded (wsV RX4 129 RX4 yX4_noSign wsX4_noSign) := goodIn_app (goodIn_of _ (by decide +kernel)) ggX4_faded_X4_noSign
set_option maxRecDepth 20000 in
theorem ggX4_faded_X4_noSmell : GoodIn wsX4_faded wsX4_noSmell := goodIn_r _ [14, 15, 9, 10, 6, 11] (by decide +kernel) (by decide +kernel)
set_option maxRecDepth 20000 in
theorem gX4_faded_X4_noSmell : GoodIn wsX4_faded (va_wsS RX4 132 yX4_noSmell wsX4_noSmell) := goodIn_app (goodIn_of _ (by decide +kernel)) ggX4_faded_X4_noSmell
set_option maxRecDepth 20000 in
theorem ggX4_faded_X4_in : GoodIn wsX4_faded wsX4_in := goodIn_r _ [11] (by decide +kernel) (by decide +kernel)
set_option maxRecDepth 20000 in
theorem gX4_faded_X4_in : GoodIn wsX4_faded (va_wsS RX4 81 yX4_in wsX4_in) := goodIn_app (goodIn_of _ (by decide +kernel)) ggX4_faded_X4_in
set_option maxRecDepth 20000 in
theorem ggX4_faded_X4_fades : GoodIn wsX4_faded wsX4_fades := goodIn_r _ [19, 20, 21, 22, 23, 24, 25, 26, 27, 28, 29, 30, 31, 32, 33, 34, 35, 36, 37, 38, 39, 40, 41, 42, 43, 44, 45, 46] (by decide +kernel) (by decide +kernel)
set_option maxRecDepth 20000 in
theorem gX4_faded_X4_fades : GoodIn wsX4_faded (wsV RX4 142 RX4 yX4_fades wsX4_fades) := goodIn_app (goodIn_of _ (by decide +kernel)) ggX4_faded_X4_fades
theorem dX4_faded_0 : decode cX4_faded 0 = .ok (.aload_n 0, 1) := by decide +kernel
theorem dX4_faded_1 : decode cX4_faded 1 = .ok (.iload_n 1, 1) := by decide +kernel
theorem dX4_faded_2 : decode cX4_faded 2 = .ok (.invokevirtual 129, 3) := by decide +kernel
theorem dX4_faded_5 : decode cX4_faded 5 = .ok (.ifCond .ne 10, 3) := by decide +kernel
theorem dX4_faded_8 : decode cX4_faded 8 = .ok (.iload_n 2, 1) := by decide +kernel
theorem dX4_faded_9 : decode cX4_faded 9 = .ok (.invokestatic 132, 3) := by decide +kernel
theorem dX4_faded_12 : decode cX4_faded 12 = .ok (.ifCond .eq 5, 3) := by decide +kernel
theorem dX4_faded_15 : decode cX4_faded 15 = .ok (.iconst (-1), 1) := by decide +kernel
theorem dX4_faded_16 : decode cX4_faded 16 = .ok (.ireturn, 1) := by decide +kernel
theorem dX4_faded_17 : decode cX4_faded 17 = .ok (.iload_n 3, 1) := by decide +kernel
theorem dX4_faded_18 : decode cX4_faded 18 = .ok (.i2l, 1) := by decide +kernel
theorem dX4_faded_19 : decode cX4_faded 19 = .ok (.lconst 0, 1) := by decide +kernel
theorem dX4_faded_20 : decode cX4_faded 20 = .ok (.ldc2_w 138, 3) := by decide +kernel
theorem dX4_faded_23 : decode cX4_faded 23 = .ok (.invokestatic 81, 3) := by decide +kernel
theorem dX4_faded_26 : decode cX4_faded 26 = .ok (.ifCond .eq 28, 3) := by decide +kernel
theorem dX4_faded_29 : decode cX4_faded 29 = .ok (.iload 4, 2) := by decide +kernel
theorem dX4_faded_31 : decode cX4_faded 31 = .ok (.i2l, 1) := by decide +kernel
theorem dX4_faded_32 : decode cX4_faded 32 = .ok (.lconst 0, 1) := by decide +kernel
theorem dX4_faded_33 : decode cX4_faded 33 = .ok (.ldc2_w 140, 3) := by decide +kernel
theorem dX4_faded_36 : decode cX4_faded 36 = .ok (.invokestatic 81, 3) := by decide +kernel
theorem dX4_faded_39 : decode cX4_faded 39 = .ok (.ifCond .eq 15, 3) := by decide +kernel
theorem dX4_faded_42 : decode cX4_faded 42 = .ok (.aload_n 0, 1) := by decide +kernel
theorem dX4_faded_43 : decode cX4_faded 43 = .ok (.iload_n 1, 1) := by decide +kernel
theorem dX4_faded_44 : decode cX4_faded 44 = .ok (.iload_n 2, 1) := by decide +kernel
theorem dX4_faded_45 : decode cX4_faded 45 = .ok (.iload_n 3, 1) := by decide +kernel
theorem dX4_faded_46 : decode cX4_faded 46 = .ok (.iload 4, 2) := by decide +kernel
theorem dX4_faded_48 : decode cX4_faded 48 = .ok (.invokevirtual 142, 3) := by decide +kernel
theorem dX4_faded_51 : decode cX4_faded 51 = .ok (.goto 5, 3) := by decide +kernel
theorem dX4_faded_54 : decode cX4_faded 54 = .ok (.bipush (-2), 2) := by decide +kernel
theorem dX4_faded_56 : decode cX4_faded 56 = .ok (.ireturn, 1) := by decide +kernel
set_option maxRecDepth 20000 in
theorem ggX4_noPaper_X4_in : GoodIn wsX4_noPaper wsX4_in := goodIn_r _ [5] (by decide +kernel) (by decide +kernel)
set_option maxRecDepth 20000 in
theorem gX4_noPaper_X4_in : GoodIn wsX4_noPaper (va_wsS RX4 81 yX4_in wsX4_in) := goodIn_app (goodIn_of _ (by decide +kernel)) ggX4_noPaper_X4_in
theorem dX4_noPaper_0 : decode cX4_noPaper 0 = .ok (.iload_n 1, 1) := by decide +kernel
theorem dX4_noPaper_1 : decode cX4_noPaper 1 = .ok (.i2l, 1) := by decide +kernel
theorem dX4_noPaper_2 : decode cX4_noPaper 2 = .ok (.lconst 0, 1) := by decide +kernel
theorem dX4_noPaper_3 : decode cX4_noPaper 3 = .ok (.aload_n 0, 1) := by decide +kernel
theorem dX4_noPaper_4 : decode cX4_noPaper 4 = .ok (.getfield 120, 3) := by decide +kernel
theorem dX4_noPaper_7 : decode cX4_noPaper 7 = .ok (.i2l, 1) := by decide +kernel
theorem dX4_noPaper_8 : decode cX4_noPaper 8 = .ok (.lconst 1, 1) := by decide +kernel
theorem dX4_noPaper_9 : decode cX4_noPaper 9 = .ok (.lsub, 1) := by decide +kernel
theorem dX4_noPaper_10 : decode cX4_noPaper 10 = .ok (.invokestatic 81, 3) := by decide +kernel
theorem dX4_noPaper_13 : decode cX4_noPaper 13 = .ok (.ifCond .ne 7, 3) := by decide +kernel
theorem dX4_noPaper_16 : decode cX4_noPaper 16 = .ok (.iconst 1, 1) := by decide +kernel
theorem dX4_noPaper_17 : decode cX4_noPaper 17 = .ok (.goto 4, 3) := by decide +kernel
theorem dX4_noPaper_20 : decode cX4_noPaper 20 = .ok (.iconst 0, 1) := by decide +kernel
theorem dX4_noPaper_21 : decode cX4_noPaper 21 = .ok (.ireturn, 1) := by decide +kernel
set_option maxRecDepth 20000 in
theorem ggX4_areTwo_X4_noSign : GoodIn wsX4_areTwo wsX4_noSign := goodIn_r _ [5, 6, 7, 8, 4, 9, 10, 11, 12, 13, 14, 15, 16, 17, 18, 19, 20, 21, 22, 23, 24, 25, 26, 27, 28, 29, 30, 31, 32, 33, 34] (by decide +kernel) (by decide +kernel)
set_option maxRecDepth 20000 in
theorem gX4_areTwo_X4_noSign : GoodIn wsX4_areTwo (wsV RX4 129 RX4 yX4_noSign wsX4_noSign) := goodIn_app (goodIn_of _ (by decide +kernel)) ggX4_areTwo_X4_noSign
theorem dX4_areTwo_0 : decode cX4_areTwo 0 = .ok (.aload_n 0, 1) := by decide +kernel
theorem dX4_areTwo_1 : decode cX4_areTwo 1 = .ok (.iload_n 1, 1) := by decide +kernel
theorem dX4_areTwo_2 : decode cX4_areTwo 2 = .ok (.invokevirtual 129, 3) := by decide +kernel
theorem dX4_areTwo_5 : decode cX4_areTwo 5 = .ok (.ifCond .ne 20, 3) := by decide +kernel
theorem dX4_areTwo_8 : decode cX4_areTwo 8 = .ok (.aload_n 0, 1) := by decide +kernel
theorem dX4_areTwo_9 : decode cX4_areTwo 9 = .ok (.iload_n 2, 1) := by decide +kernel
theorem dX4_areTwo_10 : decode cX4_areTwo 10 = .ok (.invokevirtual 129, 3) := by decide +kernel
theorem dX4_areTwo_13 : decode cX4_areTwo 13 = .ok (.ifCond .ne 12, 3) := by decide +kernel
theorem dX4_areTwo_16 : decode cX4_areTwo 16 = .ok (.iload_n 1, 1) := by decide +kernel
theorem dX4_areTwo_17 : decode cX4_areTwo 17 = .ok (.iload_n 2, 1) := by decide +kernel
theorem dX4_areTwo_18 : decode cX4_areTwo 18 = .ok (.if_icmp .eq 7, 3) := by decide +kernel
theorem dX4_areTwo_21 : decode cX4_areTwo 21 = .ok (.iconst 1, 1) := by decide +kernel
theorem dX4_areTwo_22 : decode cX4_areTwo 22 = .ok (.goto 4, 3) := by decide +kernel
theorem dX4_areTwo_25 : decode cX4_areTwo 25 = .ok (.iconst 0, 1) := by decide +kernel
theorem dX4_areTwo_26 : decode cX4_areTwo 26 = .ok (.ireturn, 1) := by decide +kernel
set_option maxRecDepth 20000 in
theorem ggX4_paper_X4_areTwo : GoodIn wsX4_paper wsX4_areTwo := goodIn_r _ [14, 15, 16, 17, 13, 18, 19, 20, 21, 22, 23, 24, 25, 26, 27, 28, 29, 30, 31, 32, 33, 34, 35, 36, 37, 38, 39, 40, 41, 42, 43, 44, 45, 46, 47] (by decide +kernel) (by decide +kernel)
set_option maxRecDepth 20000 in
theorem gX4_paper_X4_areTwo : GoodIn wsX4_paper (wsV RX4 146 RX4 yX4_areTwo wsX4_areTwo) := goodIn_app (goodIn_of _ (by decide +kernel)) ggX4_paper_X4_areTwo
set_option maxRecDepth 20000 in
theorem ggX4_paper_X4_in : GoodIn wsX4_paper wsX4_in := goodIn_r _ [22] (by decide +kernel) (by decide +kernel)
set_option maxRecDepth 20000 in
theorem gX4_paper_X4_in : GoodIn wsX4_paper (va_wsS RX4 81 yX4_in wsX4_in) := goodIn_app (goodIn_of _ (by decide +kernel)) ggX4_paper_X4_in
theorem dX4_paper_0 : decode cX4_paper 0 = .ok (.aload_n 0, 1) := by decide +kernel
theorem dX4_paper_1 : decode cX4_paper 1 = .ok (.iload_n 1, 1) := by decide +kernel
theorem dX4_paper_2 : decode cX4_paper 2 = .ok (.iload_n 2, 1) := by decide +kernel
theorem dX4_paper_3 : decode cX4_paper 3 = .ok (.invokevirtual 146, 3) := by decide +kernel
theorem dX4_paper_6 : decode cX4_paper 6 = .ok (.ifCond .ne 5, 3) := by decide +kernel
theorem dX4_paper_9 : decode cX4_paper 9 = .ok (.iconst (-1), 1) := by decide +kernel
theorem dX4_paper_10 : decode cX4_paper 10 = .ok (.ireturn, 1) := by decide +kernel
theorem dX4_paper_11 : decode cX4_paper 11 = .ok (.iload_n 3, 1) := by decide +kernel
theorem dX4_paper_12 : decode cX4_paper 12 = .ok (.i2l, 1) := by decide +kernel
theorem dX4_paper_13 : decode cX4_paper 13 = .ok (.lconst 0, 1) := by decide +kernel
theorem dX4_paper_14 : decode cX4_paper 14 = .ok (.ldc2_w 107, 3) := by decide +kernel
theorem dX4_paper_17 : decode cX4_paper 17 = .ok (.invokestatic 81, 3) := by decide +kernel
theorem dX4_paper_20 : decode cX4_paper 20 = .ok (.ifCond .ne 6, 3) := by decide +kernel
theorem dX4_paper_23 : decode cX4_paper 23 = .ok (.bipush (-2), 2) := by decide +kernel
theorem dX4_paper_25 : decode cX4_paper 25 = .ok (.ireturn, 1) := by decide +kernel
theorem dX4_paper_26 : decode cX4_paper 26 = .ok (.aload_n 0, 1) := by decide +kernel
theorem dX4_paper_27 : decode cX4_paper 27 = .ok (.getfield 120, 3) := by decide +kernel
theorem dX4_paper_30 : decode cX4_paper 30 = .ok (.bipush 8, 2) := by decide +kernel
theorem dX4_paper_32 : decode cX4_paper 32 = .ok (.if_icmp .ne 6, 3) := by decide +kernel
theorem dX4_paper_35 : decode cX4_paper 35 = .ok (.bipush (-4), 2) := by decide +kernel
theorem dX4_paper_37 : decode cX4_paper 37 = .ok (.ireturn, 1) := by decide +kernel
theorem dX4_paper_38 : decode cX4_paper 38 = .ok (.aload_n 0, 1) := by decide +kernel
theorem dX4_paper_39 : decode cX4_paper 39 = .ok (.getfield 25, 3) := by decide +kernel
theorem dX4_paper_42 : decode cX4_paper 42 = .ok (.aload_n 0, 1) := by decide +kernel
theorem dX4_paper_43 : decode cX4_paper 43 = .ok (.getfield 120, 3) := by decide +kernel
theorem dX4_paper_46 : decode cX4_paper 46 = .ok (.iload_n 1, 1) := by decide +kernel
theorem dX4_paper_47 : decode cX4_paper 47 = .ok (.iastore, 1) := by decide +kernel
theorem dX4_paper_48 : decode cX4_paper 48 = .ok (.aload_n 0, 1) := by decide +kernel
theorem dX4_paper_49 : decode cX4_paper 49 = .ok (.getfield 28, 3) := by decide +kernel
theorem dX4_paper_52 : decode cX4_paper 52 = .ok (.aload_n 0, 1) := by decide +kernel
theorem dX4_paper_53 : decode cX4_paper 53 = .ok (.getfield 120, 3) := by decide +kernel
theorem dX4_paper_56 : decode cX4_paper 56 = .ok (.iload_n 2, 1) := by decide +kernel
theorem dX4_paper_57 : decode cX4_paper 57 = .ok (.iastore, 1) := by decide +kernel
theorem dX4_paper_58 : decode cX4_paper 58 = .ok (.aload_n 0, 1) := by decide +kernel
theorem dX4_paper_59 : decode cX4_paper 59 = .ok (.getfield 31, 3) := by decide +kernel
theorem dX4_paper_62 : decode cX4_paper 62 = .ok (.aload_n 0, 1) := by decide +kernel
theorem dX4_paper_63 : decode cX4_paper 63 = .ok (.getfield 120, 3) := by decide +kernel
theorem dX4_paper_66 : decode cX4_paper 66 = .ok (.aload_n 0, 1) := by decide +kernel
theorem dX4_paper_67 : decode cX4_paper 67 = .ok (.getfield 123, 3) := by decide +kernel
theorem dX4_paper_70 : decode cX4_paper 70 = .ok (.iastore, 1) := by decide +kernel
theorem dX4_paper_71 : decode cX4_paper 71 = .ok (.aload_n 0, 1) := by decide +kernel
theorem dX4_paper_72 : decode cX4_paper 72 = .ok (.getfield 34, 3) := by decide +kernel
theorem dX4_paper_75 : decode cX4_paper 75 = .ok (.aload_n 0, 1) := by decide +kernel
theorem dX4_paper_76 : decode cX4_paper 76 = .ok (.getfield 120, 3) := by decide +kernel
theorem dX4_paper_79 : decode cX4_paper 79 = .ok (.iload_n 3, 1) := by decide +kernel
theorem dX4_paper_80 : decode cX4_paper 80 = .ok (.iastore, 1) := by decide +kernel
theorem dX4_paper_81 : decode cX4_paper 81 = .ok (.aload_n 0, 1) := by decide +kernel
theorem dX4_paper_82 : decode cX4_paper 82 = .ok (.getfield 37, 3) := by decide +kernel
theorem dX4_paper_85 : decode cX4_paper 85 = .ok (.aload_n 0, 1) := by decide +kernel
theorem dX4_paper_86 : decode cX4_paper 86 = .ok (.getfield 120, 3) := by decide +kernel
theorem dX4_paper_89 : decode cX4_paper 89 = .ok (.iconst 0, 1) := by decide +kernel
theorem dX4_paper_90 : decode cX4_paper 90 = .ok (.iastore, 1) := by decide +kernel
theorem dX4_paper_91 : decode cX4_paper 91 = .ok (.aload_n 0, 1) := by decide +kernel
theorem dX4_paper_92 : decode cX4_paper 92 = .ok (.getfield 40, 3) := by decide +kernel
theorem dX4_paper_95 : decode cX4_paper 95 = .ok (.aload_n 0, 1) := by decide +kernel
theorem dX4_paper_96 : decode cX4_paper 96 = .ok (.getfield 120, 3) := by decide +kernel
theorem dX4_paper_99 : decode cX4_paper 99 = .ok (.iconst 0, 1) := by decide +kernel
theorem dX4_paper_100 : decode cX4_paper 100 = .ok (.iastore, 1) := by decide +kernel
theorem dX4_paper_101 : decode cX4_paper 101 = .ok (.aload_n 0, 1) := by decide +kernel
theorem dX4_paper_102 : decode cX4_paper 102 = .ok (.dup, 1) := by decide +kernel
theorem dX4_paper_103 : decode cX4_paper 103 = .ok (.getfield 120, 3) := by decide +kernel
theorem dX4_paper_106 : decode cX4_paper 106 = .ok (.iconst 1, 1) := by decide +kernel
theorem dX4_paper_107 : decode cX4_paper 107 = .ok (.iadd, 1) := by decide +kernel
theorem dX4_paper_108 : decode cX4_paper 108 = .ok (.putfield 120, 3) := by decide +kernel
theorem dX4_paper_111 : decode cX4_paper 111 = .ok (.aload_n 0, 1) := by decide +kernel
theorem dX4_paper_112 : decode cX4_paper 112 = .ok (.getfield 120, 3) := by decide +kernel
theorem dX4_paper_115 : decode cX4_paper 115 = .ok (.iconst 1, 1) := by decide +kernel
theorem dX4_paper_116 : decode cX4_paper 116 = .ok (.isub, 1) := by decide +kernel
theorem dX4_paper_117 : decode cX4_paper 117 = .ok (.ireturn, 1) := by decide +kernel
set_option maxRecDepth 20000 in
theorem ggX4_ofPaper_X4_noPaper : GoodIn wsX4_ofPaper wsX4_noPaper := goodIn_r _ [11, 12, 13, 14, 10, 15, 16, 17, 18, 19, 20, 21, 22, 23, 24, 25, 26, 27, 28, 29, 30, 31, 32, 33, 34, 35, 36, 37, 38, 39, 40] (by decide +kernel) (by decide +kernel)
set_option maxRecDepth 20000 in
theorem gX4_ofPaper_X4_noPaper : GoodIn wsX4_ofPaper (wsV RX4 149 RX4 yX4_noPaper wsX4_noPaper) := goodIn_app (goodIn_of _ (by decide +kernel)) ggX4_ofPaper_X4_noPaper
theorem dX4_ofPaper_0 : decode cX4_ofPaper 0 = .ok (.aload_n 0, 1) := by decide +kernel
theorem dX4_ofPaper_1 : decode cX4_ofPaper 1 = .ok (.iload_n 1, 1) := by decide +kernel
theorem dX4_ofPaper_2 : decode cX4_ofPaper 2 = .ok (.invokevirtual 149, 3) := by decide +kernel
theorem dX4_ofPaper_5 : decode cX4_ofPaper 5 = .ok (.ifCond .eq 5, 3) := by decide +kernel
theorem dX4_ofPaper_8 : decode cX4_ofPaper 8 = .ok (.iconst (-1), 1) := by decide +kernel
theorem dX4_ofPaper_9 : decode cX4_ofPaper 9 = .ok (.ireturn, 1) := by decide +kernel
theorem dX4_ofPaper_10 : decode cX4_ofPaper 10 = .ok (.iload_n 2, 1) := by decide +kernel
theorem dX4_ofPaper_11 : decode cX4_ofPaper 11 = .ok (.tableswitch 79 0 5 #[37, 44, 51, 58, 65, 72], 37) := by decide +kernel
theorem dX4_ofPaper_48 : decode cX4_ofPaper 48 = .ok (.aload_n 0, 1) := by decide +kernel
theorem dX4_ofPaper_49 : decode cX4_ofPaper 49 = .ok (.getfield 25, 3) := by decide +kernel
theorem dX4_ofPaper_52 : decode cX4_ofPaper 52 = .ok (.iload_n 1, 1) := by decide +kernel
theorem dX4_ofPaper_53 : decode cX4_ofPaper 53 = .ok (.iaload, 1) := by decide +kernel
theorem dX4_ofPaper_54 : decode cX4_ofPaper 54 = .ok (.ireturn, 1) := by decide +kernel
theorem dX4_ofPaper_55 : decode cX4_ofPaper 55 = .ok (.aload_n 0, 1) := by decide +kernel
theorem dX4_ofPaper_56 : decode cX4_ofPaper 56 = .ok (.getfield 28, 3) := by decide +kernel
theorem dX4_ofPaper_59 : decode cX4_ofPaper 59 = .ok (.iload_n 1, 1) := by decide +kernel
theorem dX4_ofPaper_60 : decode cX4_ofPaper 60 = .ok (.iaload, 1) := by decide +kernel
theorem dX4_ofPaper_61 : decode cX4_ofPaper 61 = .ok (.ireturn, 1) := by decide +kernel
theorem dX4_ofPaper_62 : decode cX4_ofPaper 62 = .ok (.aload_n 0, 1) := by decide +kernel
theorem dX4_ofPaper_63 : decode cX4_ofPaper 63 = .ok (.getfield 31, 3) := by decide +kernel
theorem dX4_ofPaper_66 : decode cX4_ofPaper 66 = .ok (.iload_n 1, 1) := by decide +kernel
theorem dX4_ofPaper_67 : decode cX4_ofPaper 67 = .ok (.iaload, 1) := by decide +kernel
theorem dX4_ofPaper_68 : decode cX4_ofPaper 68 = .ok (.ireturn, 1) := by decide +kernel
theorem dX4_ofPaper_69 : decode cX4_ofPaper 69 = .ok (.aload_n 0, 1) := by decide +kernel
theorem dX4_ofPaper_70 : decode cX4_ofPaper 70 = .ok (.getfield 34, 3) := by decide +kernel
theorem dX4_ofPaper_73 : decode cX4_ofPaper 73 = .ok (.iload_n 1, 1) := by decide +kernel
theorem dX4_ofPaper_74 : decode cX4_ofPaper 74 = .ok (.iaload, 1) := by decide +kernel
theorem dX4_ofPaper_75 : decode cX4_ofPaper 75 = .ok (.ireturn, 1) := by decide +kernel
theorem dX4_ofPaper_76 : decode cX4_ofPaper 76 = .ok (.aload_n 0, 1) := by decide +kernel
theorem dX4_ofPaper_77 : decode cX4_ofPaper 77 = .ok (.getfield 37, 3) := by decide +kernel
theorem dX4_ofPaper_80 : decode cX4_ofPaper 80 = .ok (.iload_n 1, 1) := by decide +kernel
theorem dX4_ofPaper_81 : decode cX4_ofPaper 81 = .ok (.iaload, 1) := by decide +kernel
theorem dX4_ofPaper_82 : decode cX4_ofPaper 82 = .ok (.ireturn, 1) := by decide +kernel
theorem dX4_ofPaper_83 : decode cX4_ofPaper 83 = .ok (.aload_n 0, 1) := by decide +kernel
theorem dX4_ofPaper_84 : decode cX4_ofPaper 84 = .ok (.getfield 40, 3) := by decide +kernel
theorem dX4_ofPaper_87 : decode cX4_ofPaper 87 = .ok (.iload_n 1, 1) := by decide +kernel
theorem dX4_ofPaper_88 : decode cX4_ofPaper 88 = .ok (.iaload, 1) := by decide +kernel
theorem dX4_ofPaper_89 : decode cX4_ofPaper 89 = .ok (.ireturn, 1) := by decide +kernel
theorem dX4_ofPaper_90 : decode cX4_ofPaper 90 = .ok (.bipush (-2), 2) := by decide +kernel
theorem dX4_ofPaper_92 : decode cX4_ofPaper 92 = .ok (.ireturn, 1) := by decide +kernel
set_option maxRecDepth 20000 in
theorem ggX4_smellOf_X4_strong : GoodIn wsX4_smellOf wsX4_strong := goodIn_r _ [11, 12, 22, 23, 24, 25, 26, 27, 28, 29, 30, 31, 32, 33, 34, 35, 36, 37, 38, 39, 40, 41, 42, 43, 44, 45, 46] (by decide +kernel) (by decide +kernel)
set_option maxRecDepth 20000 in
theorem gX4_smellOf_X4_strong : GoodIn wsX4_smellOf (wsV RX4 135 RX4 yX4_strong wsX4_strong) := goodIn_app (goodIn_of _ (by decide +kernel)) ggX4_smellOf_X4_strong
set_option maxRecDepth 20000 in
theorem ggX4_smellOf_X4_fades : GoodIn wsX4_smellOf wsX4_fades := goodIn_r _ [16, 17, 18, 22, 23, 24, 25, 26, 27, 28, 29, 30, 31, 32, 33, 34, 35, 36, 37, 38, 39, 40, 41, 42, 43, 44, 45, 46] (by decide +kernel) (by decide +kernel)
set_option maxRecDepth 20000 in
theorem gX4_smellOf_X4_fades : GoodIn wsX4_smellOf (wsV RX4 142 RX4 yX4_fades wsX4_fades) := goodIn_app (goodIn_of _ (by decide +kernel)) ggX4_smellOf_X4_fades
set_option maxRecDepth 20000 in
theorem ggX4_smellOf_X4_greater : GoodIn wsX4_smellOf wsX4_greater := goodIn_r _ [21] (by decide +kernel) (by decide +kernel)
set_option maxRecDepth 20000 in
theorem gX4_smellOf_X4_greater : GoodIn wsX4_smellOf (va_wsS RX4 152 yX4_greater wsX4_greater) := goodIn_app (goodIn_of _ (by decide +kernel)) ggX4_smellOf_X4_greater
theorem dX4_smellOf_0 : decode cX4_smellOf 0 = .ok (.iload_n 3, 1) := by decide +kernel
theorem dX4_smellOf_1 : decode cX4_smellOf 1 = .ok (.aload_n 0, 1) := by decide +kernel
theorem dX4_smellOf_2 : decode cX4_smellOf 2 = .ok (.getfield 31, 3) := by decide +kernel
theorem dX4_smellOf_5 : decode cX4_smellOf 5 = .ok (.iload_n 1, 1) := by decide +kernel
theorem dX4_smellOf_6 : decode cX4_smellOf 6 = .ok (.iaload, 1) := by decide +kernel
theorem dX4_smellOf_7 : decode cX4_smellOf 7 = .ok (.isub, 1) := by decide +kernel
theorem dX4_smellOf_8 : decode cX4_smellOf 8 = .ok (.istore 4, 2) := by decide +kernel
theorem dX4_smellOf_10 : decode cX4_smellOf 10 = .ok (.aload_n 0, 1) := by decide +kernel
theorem dX4_smellOf_11 : decode cX4_smellOf 11 = .ok (.getfield 25, 3) := by decide +kernel
theorem dX4_smellOf_14 : decode cX4_smellOf 14 = .ok (.iload_n 1, 1) := by decide +kernel
theorem dX4_smellOf_15 : decode cX4_smellOf 15 = .ok (.iaload, 1) := by decide +kernel
theorem dX4_smellOf_16 : decode cX4_smellOf 16 = .ok (.istore 5, 2) := by decide +kernel
theorem dX4_smellOf_18 : decode cX4_smellOf 18 = .ok (.aload_n 0, 1) := by decide +kernel
theorem dX4_smellOf_19 : decode cX4_smellOf 19 = .ok (.getfield 28, 3) := by decide +kernel
theorem dX4_smellOf_22 : decode cX4_smellOf 22 = .ok (.iload_n 1, 1) := by decide +kernel
theorem dX4_smellOf_23 : decode cX4_smellOf 23 = .ok (.iaload, 1) := by decide +kernel
theorem dX4_smellOf_24 : decode cX4_smellOf 24 = .ok (.istore 6, 2) := by decide +kernel
theorem dX4_smellOf_26 : decode cX4_smellOf 26 = .ok (.iconst 0, 1) := by decide +kernel
theorem dX4_smellOf_27 : decode cX4_smellOf 27 = .ok (.aload_n 0, 1) := by decide +kernel
theorem dX4_smellOf_28 : decode cX4_smellOf 28 = .ok (.iload 5, 2) := by decide +kernel
theorem dX4_smellOf_30 : decode cX4_smellOf 30 = .ok (.iload_n 2, 1) := by decide +kernel
theorem dX4_smellOf_31 : decode cX4_smellOf 31 = .ok (.iconst 4, 1) := by decide +kernel
theorem dX4_smellOf_32 : decode cX4_smellOf 32 = .ok (.aload_n 0, 1) := by decide +kernel
theorem dX4_smellOf_33 : decode cX4_smellOf 33 = .ok (.iload 5, 2) := by decide +kernel
theorem dX4_smellOf_35 : decode cX4_smellOf 35 = .ok (.iload_n 2, 1) := by decide +kernel
theorem dX4_smellOf_36 : decode cX4_smellOf 36 = .ok (.invokevirtual 135, 3) := by decide +kernel
theorem dX4_smellOf_39 : decode cX4_smellOf 39 = .ok (.imul, 1) := by decide +kernel
theorem dX4_smellOf_40 : decode cX4_smellOf 40 = .ok (.iload 4, 2) := by decide +kernel
theorem dX4_smellOf_42 : decode cX4_smellOf 42 = .ok (.invokevirtual 142, 3) := by decide +kernel
theorem dX4_smellOf_45 : decode cX4_smellOf 45 = .ok (.aload_n 0, 1) := by decide +kernel
theorem dX4_smellOf_46 : decode cX4_smellOf 46 = .ok (.iload 6, 2) := by decide +kernel
theorem dX4_smellOf_48 : decode cX4_smellOf 48 = .ok (.iload_n 2, 1) := by decide +kernel
theorem dX4_smellOf_49 : decode cX4_smellOf 49 = .ok (.iconst 4, 1) := by decide +kernel
theorem dX4_smellOf_50 : decode cX4_smellOf 50 = .ok (.aload_n 0, 1) := by decide +kernel
theorem dX4_smellOf_51 : decode cX4_smellOf 51 = .ok (.iload 6, 2) := by decide +kernel
theorem dX4_smellOf_53 : decode cX4_smellOf 53 = .ok (.iload_n 2, 1) := by decide +kernel
theorem dX4_smellOf_54 : decode cX4_smellOf 54 = .ok (.invokevirtual 135, 3) := by decide +kernel
theorem dX4_smellOf_57 : decode cX4_smellOf 57 = .ok (.imul, 1) := by decide +kernel
theorem dX4_smellOf_58 : decode cX4_smellOf 58 = .ok (.iload 4, 2) := by decide +kernel
theorem dX4_smellOf_60 : decode cX4_smellOf 60 = .ok (.invokevirtual 142, 3) := by decide +kernel
theorem dX4_smellOf_63 : decode cX4_smellOf 63 = .ok (.iadd, 1) := by decide +kernel
theorem dX4_smellOf_64 : decode cX4_smellOf 64 = .ok (.aload_n 0, 1) := by decide +kernel
theorem dX4_smellOf_65 : decode cX4_smellOf 65 = .ok (.getfield 34, 3) := by decide +kernel
theorem dX4_smellOf_68 : decode cX4_smellOf 68 = .ok (.iload_n 1, 1) := by decide +kernel
theorem dX4_smellOf_69 : decode cX4_smellOf 69 = .ok (.iaload, 1) := by decide +kernel
theorem dX4_smellOf_70 : decode cX4_smellOf 70 = .ok (.isub, 1) := by decide +kernel
theorem dX4_smellOf_71 : decode cX4_smellOf 71 = .ok (.invokestatic 152, 3) := by decide +kernel
theorem dX4_smellOf_74 : decode cX4_smellOf 74 = .ok (.istore 7, 2) := by decide +kernel
theorem dX4_smellOf_76 : decode cX4_smellOf 76 = .ok (.aload_n 0, 1) := by decide +kernel
theorem dX4_smellOf_77 : decode cX4_smellOf 77 = .ok (.getfield 37, 3) := by decide +kernel
theorem dX4_smellOf_80 : decode cX4_smellOf 80 = .ok (.iload_n 1, 1) := by decide +kernel
theorem dX4_smellOf_81 : decode cX4_smellOf 81 = .ok (.iaload, 1) := by decide +kernel
theorem dX4_smellOf_82 : decode cX4_smellOf 82 = .ok (.iload_n 2, 1) := by decide +kernel
theorem dX4_smellOf_83 : decode cX4_smellOf 83 = .ok (.ishr, 1) := by decide +kernel
theorem dX4_smellOf_84 : decode cX4_smellOf 84 = .ok (.iconst 1, 1) := by decide +kernel
theorem dX4_smellOf_85 : decode cX4_smellOf 85 = .ok (.iand, 1) := by decide +kernel
theorem dX4_smellOf_86 : decode cX4_smellOf 86 = .ok (.iconst 1, 1) := by decide +kernel
theorem dX4_smellOf_87 : decode cX4_smellOf 87 = .ok (.if_icmp .ne 7, 3) := by decide +kernel
theorem dX4_smellOf_90 : decode cX4_smellOf 90 = .ok (.iconst 0, 1) := by decide +kernel
theorem dX4_smellOf_91 : decode cX4_smellOf 91 = .ok (.goto 5, 3) := by decide +kernel
theorem dX4_smellOf_94 : decode cX4_smellOf 94 = .ok (.iload 7, 2) := by decide +kernel
theorem dX4_smellOf_96 : decode cX4_smellOf 96 = .ok (.aload_n 0, 1) := by decide +kernel
theorem dX4_smellOf_97 : decode cX4_smellOf 97 = .ok (.getfield 40, 3) := by decide +kernel
theorem dX4_smellOf_100 : decode cX4_smellOf 100 = .ok (.iload_n 1, 1) := by decide +kernel
theorem dX4_smellOf_101 : decode cX4_smellOf 101 = .ok (.iaload, 1) := by decide +kernel
theorem dX4_smellOf_102 : decode cX4_smellOf 102 = .ok (.iadd, 1) := by decide +kernel
theorem dX4_smellOf_103 : decode cX4_smellOf 103 = .ok (.ireturn, 1) := by decide +kernel
set_option maxRecDepth 20000 in
theorem ggX4_smells_X4_noPaper : GoodIn wsX4_smells wsX4_noPaper := goodIn_r _ [7, 8, 9, 10, 6, 11, 39, 40, 41, 42, 43, 44, 45, 46, 47, 48, 49, 50, 51, 52, 53, 54, 55, 56, 57, 58, 59, 60, 61, 62, 63] (by decide +kernel) (by decide +kernel)
set_option maxRecDepth 20000 in
theorem gX4_smells_X4_noPaper : GoodIn wsX4_smells (wsV RX4 149 RX4 yX4_noPaper wsX4_noPaper) := goodIn_app (goodIn_of _ (by decide +kernel)) ggX4_smells_X4_noPaper
set_option maxRecDepth 20000 in
theorem ggX4_smells_X4_noSmell : GoodIn wsX4_smells wsX4_noSmell := goodIn_r _ [14, 15, 9, 10, 6, 11] (by decide +kernel) (by decide +kernel)
set_option maxRecDepth 20000 in
theorem gX4_smells_X4_noSmell : GoodIn wsX4_smells (va_wsS RX4 132 yX4_noSmell wsX4_noSmell) := goodIn_app (goodIn_of _ (by decide +kernel)) ggX4_smells_X4_noSmell
set_option maxRecDepth 20000 in
theorem ggX4_smells_X4_in : GoodIn wsX4_smells wsX4_in := goodIn_r _ [11] (by decide +kernel) (by decide +kernel)
set_option maxRecDepth 20000 in
theorem gX4_smells_X4_in : GoodIn wsX4_smells (va_wsS RX4 81 yX4_in wsX4_in) := goodIn_app (goodIn_of _ (by decide +kernel)) ggX4_smells_X4_in
set_option maxRecDepth 20000 in
theorem ggX4_smells_X4_smellOf : GoodIn wsX4_smells wsX4_smellOf := goodIn_r _ [19, 1, 20, 21, 22, 23, 24, 25, 26, 27, 6, 28, 29, 30, 31, 32, 33, 34, 35, 36, 37, 38, 39, 40, 41, 42, 43, 44, 45, 46, 47, 48, 49, 50, 51, 52, 53, 54, 55, 56, 57, 58, 59, 60, 61, 62, 63] (by decide +kernel) (by decide +kernel)
set_option maxRecDepth 20000 in
theorem gX4_smells_X4_smellOf : GoodIn wsX4_smells (wsV RX4 155 RX4 yX4_smellOf wsX4_smellOf) := goodIn_app (goodIn_of _ (by decide +kernel)) ggX4_smells_X4_smellOf
theorem dX4_smells_0 : decode cX4_smells 0 = .ok (.aload_n 0, 1) := by decide +kernel
theorem dX4_smells_1 : decode cX4_smells 1 = .ok (.iload_n 1, 1) := by decide +kernel
theorem dX4_smells_2 : decode cX4_smells 2 = .ok (.invokevirtual 149, 3) := by decide +kernel
theorem dX4_smells_5 : decode cX4_smells 5 = .ok (.ifCond .ne 10, 3) := by decide +kernel
theorem dX4_smells_8 : decode cX4_smells 8 = .ok (.iload_n 2, 1) := by decide +kernel
theorem dX4_smells_9 : decode cX4_smells 9 = .ok (.invokestatic 132, 3) := by decide +kernel
theorem dX4_smells_12 : decode cX4_smells 12 = .ok (.ifCond .eq 5, 3) := by decide +kernel
theorem dX4_smells_15 : decode cX4_smells 15 = .ok (.iconst (-1), 1) := by decide +kernel
theorem dX4_smells_16 : decode cX4_smells 16 = .ok (.ireturn, 1) := by decide +kernel
theorem dX4_smells_17 : decode cX4_smells 17 = .ok (.iload_n 3, 1) := by decide +kernel
theorem dX4_smells_18 : decode cX4_smells 18 = .ok (.i2l, 1) := by decide +kernel
theorem dX4_smells_19 : decode cX4_smells 19 = .ok (.aload_n 0, 1) := by decide +kernel
theorem dX4_smells_20 : decode cX4_smells 20 = .ok (.getfield 31, 3) := by decide +kernel
theorem dX4_smells_23 : decode cX4_smells 23 = .ok (.iload_n 1, 1) := by decide +kernel
theorem dX4_smells_24 : decode cX4_smells 24 = .ok (.iaload, 1) := by decide +kernel
theorem dX4_smells_25 : decode cX4_smells 25 = .ok (.i2l, 1) := by decide +kernel
theorem dX4_smells_26 : decode cX4_smells 26 = .ok (.ldc2_w 140, 3) := by decide +kernel
theorem dX4_smells_29 : decode cX4_smells 29 = .ok (.invokestatic 81, 3) := by decide +kernel
theorem dX4_smells_32 : decode cX4_smells 32 = .ok (.ifCond .eq 13, 3) := by decide +kernel
theorem dX4_smells_35 : decode cX4_smells 35 = .ok (.aload_n 0, 1) := by decide +kernel
theorem dX4_smells_36 : decode cX4_smells 36 = .ok (.iload_n 1, 1) := by decide +kernel
theorem dX4_smells_37 : decode cX4_smells 37 = .ok (.iload_n 2, 1) := by decide +kernel
theorem dX4_smells_38 : decode cX4_smells 38 = .ok (.iload_n 3, 1) := by decide +kernel
theorem dX4_smells_39 : decode cX4_smells 39 = .ok (.invokevirtual 155, 3) := by decide +kernel
theorem dX4_smells_42 : decode cX4_smells 42 = .ok (.goto 5, 3) := by decide +kernel
theorem dX4_smells_45 : decode cX4_smells 45 = .ok (.bipush (-2), 2) := by decide +kernel
theorem dX4_smells_47 : decode cX4_smells 47 = .ok (.ireturn, 1) := by decide +kernel
set_option maxRecDepth 20000 in
theorem ggX4_wash_X4_noPaper : GoodIn wsX4_wash wsX4_noPaper := goodIn_r _ [6, 7, 8, 9, 5, 10, 15, 16, 17, 18, 19, 20, 21, 22, 23, 24, 25, 26, 27, 28, 29, 30, 31, 32, 33, 34, 35, 36, 37, 38, 39] (by decide +kernel) (by decide +kernel)
set_option maxRecDepth 20000 in
theorem gX4_wash_X4_noPaper : GoodIn wsX4_wash (wsV RX4 149 RX4 yX4_noPaper wsX4_noPaper) := goodIn_app (goodIn_of _ (by decide +kernel)) ggX4_wash_X4_noPaper
set_option maxRecDepth 20000 in
theorem ggX4_wash_X4_noSmell : GoodIn wsX4_wash wsX4_noSmell := goodIn_r _ [13, 14, 8, 9, 5, 10] (by decide +kernel) (by decide +kernel)
set_option maxRecDepth 20000 in
theorem gX4_wash_X4_noSmell : GoodIn wsX4_wash (va_wsS RX4 132 yX4_noSmell wsX4_noSmell) := goodIn_app (goodIn_of _ (by decide +kernel)) ggX4_wash_X4_noSmell
theorem dX4_wash_0 : decode cX4_wash 0 = .ok (.aload_n 0, 1) := by decide +kernel
theorem dX4_wash_1 : decode cX4_wash 1 = .ok (.iload_n 1, 1) := by decide +kernel
theorem dX4_wash_2 : decode cX4_wash 2 = .ok (.invokevirtual 149, 3) := by decide +kernel
theorem dX4_wash_5 : decode cX4_wash 5 = .ok (.ifCond .ne 10, 3) := by decide +kernel
theorem dX4_wash_8 : decode cX4_wash 8 = .ok (.iload_n 2, 1) := by decide +kernel
theorem dX4_wash_9 : decode cX4_wash 9 = .ok (.invokestatic 132, 3) := by decide +kernel
theorem dX4_wash_12 : decode cX4_wash 12 = .ok (.ifCond .eq 5, 3) := by decide +kernel
theorem dX4_wash_15 : decode cX4_wash 15 = .ok (.iconst (-1), 1) := by decide +kernel
theorem dX4_wash_16 : decode cX4_wash 16 = .ok (.ireturn, 1) := by decide +kernel
theorem dX4_wash_17 : decode cX4_wash 17 = .ok (.aload_n 0, 1) := by decide +kernel
theorem dX4_wash_18 : decode cX4_wash 18 = .ok (.getfield 37, 3) := by decide +kernel
theorem dX4_wash_21 : decode cX4_wash 21 = .ok (.iload_n 1, 1) := by decide +kernel
theorem dX4_wash_22 : decode cX4_wash 22 = .ok (.iaload, 1) := by decide +kernel
theorem dX4_wash_23 : decode cX4_wash 23 = .ok (.iload_n 2, 1) := by decide +kernel
theorem dX4_wash_24 : decode cX4_wash 24 = .ok (.ishr, 1) := by decide +kernel
theorem dX4_wash_25 : decode cX4_wash 25 = .ok (.iconst 1, 1) := by decide +kernel
theorem dX4_wash_26 : decode cX4_wash 26 = .ok (.iand, 1) := by decide +kernel
theorem dX4_wash_27 : decode cX4_wash 27 = .ok (.istore_n 3, 1) := by decide +kernel
theorem dX4_wash_28 : decode cX4_wash 28 = .ok (.aload_n 0, 1) := by decide +kernel
theorem dX4_wash_29 : decode cX4_wash 29 = .ok (.getfield 37, 3) := by decide +kernel
theorem dX4_wash_32 : decode cX4_wash 32 = .ok (.iload_n 1, 1) := by decide +kernel
theorem dX4_wash_33 : decode cX4_wash 33 = .ok (.dup2, 1) := by decide +kernel
theorem dX4_wash_34 : decode cX4_wash 34 = .ok (.iaload, 1) := by decide +kernel
theorem dX4_wash_35 : decode cX4_wash 35 = .ok (.iconst 1, 1) := by decide +kernel
theorem dX4_wash_36 : decode cX4_wash 36 = .ok (.iload_n 2, 1) := by decide +kernel
theorem dX4_wash_37 : decode cX4_wash 37 = .ok (.ishl, 1) := by decide +kernel
theorem dX4_wash_38 : decode cX4_wash 38 = .ok (.ior, 1) := by decide +kernel
theorem dX4_wash_39 : decode cX4_wash 39 = .ok (.iastore, 1) := by decide +kernel
theorem dX4_wash_40 : decode cX4_wash 40 = .ok (.iconst 1, 1) := by decide +kernel
theorem dX4_wash_41 : decode cX4_wash 41 = .ok (.iload_n 3, 1) := by decide +kernel
theorem dX4_wash_42 : decode cX4_wash 42 = .ok (.isub, 1) := by decide +kernel
theorem dX4_wash_43 : decode cX4_wash 43 = .ok (.ireturn, 1) := by decide +kernel
set_option maxRecDepth 20000 in
theorem ggX4_flood_X4_in : GoodIn wsX4_flood wsX4_in := goodIn_r _ [7] (by decide +kernel) (by decide +kernel)
set_option maxRecDepth 20000 in
theorem gX4_flood_X4_in : GoodIn wsX4_flood (va_wsS RX4 81 yX4_in wsX4_in) := goodIn_app (goodIn_of _ (by decide +kernel)) ggX4_flood_X4_in
theorem dX4_flood_0 : decode cX4_flood 0 = .ok (.iload_n 1, 1) := by decide +kernel
theorem dX4_flood_1 : decode cX4_flood 1 = .ok (.i2l, 1) := by decide +kernel
theorem dX4_flood_2 : decode cX4_flood 2 = .ok (.lconst 1, 1) := by decide +kernel
theorem dX4_flood_3 : decode cX4_flood 3 = .ok (.ldc2_w 107, 3) := by decide +kernel
theorem dX4_flood_6 : decode cX4_flood 6 = .ok (.invokestatic 81, 3) := by decide +kernel
theorem dX4_flood_9 : decode cX4_flood 9 = .ok (.ifCond .ne 6, 3) := by decide +kernel
theorem dX4_flood_12 : decode cX4_flood 12 = .ok (.bipush (-2), 2) := by decide +kernel
theorem dX4_flood_14 : decode cX4_flood 14 = .ok (.ireturn, 1) := by decide +kernel
theorem dX4_flood_15 : decode cX4_flood 15 = .ok (.iconst 0, 1) := by decide +kernel
theorem dX4_flood_16 : decode cX4_flood 16 = .ok (.istore_n 2, 1) := by decide +kernel
theorem dX4_flood_17 : decode cX4_flood 17 = .ok (.iload_n 2, 1) := by decide +kernel
theorem dX4_flood_18 : decode cX4_flood 18 = .ok (.aload_n 0, 1) := by decide +kernel
theorem dX4_flood_19 : decode cX4_flood 19 = .ok (.getfield 120, 3) := by decide +kernel
theorem dX4_flood_22 : decode cX4_flood 22 = .ok (.if_icmp .ge 19, 3) := by decide +kernel
theorem dX4_flood_25 : decode cX4_flood 25 = .ok (.aload_n 0, 1) := by decide +kernel
theorem dX4_flood_26 : decode cX4_flood 26 = .ok (.getfield 40, 3) := by decide +kernel
theorem dX4_flood_29 : decode cX4_flood 29 = .ok (.iload_n 2, 1) := by decide +kernel
theorem dX4_flood_30 : decode cX4_flood 30 = .ok (.dup2, 1) := by decide +kernel
theorem dX4_flood_31 : decode cX4_flood 31 = .ok (.iaload, 1) := by decide +kernel
theorem dX4_flood_32 : decode cX4_flood 32 = .ok (.iload_n 1, 1) := by decide +kernel
theorem dX4_flood_33 : decode cX4_flood 33 = .ok (.iadd, 1) := by decide +kernel
theorem dX4_flood_34 : decode cX4_flood 34 = .ok (.iastore, 1) := by decide +kernel
theorem dX4_flood_35 : decode cX4_flood 35 = .ok (.iinc 2 1, 3) := by decide +kernel
theorem dX4_flood_38 : decode cX4_flood 38 = .ok (.goto (-21), 3) := by decide +kernel
theorem dX4_flood_41 : decode cX4_flood 41 = .ok (.aload_n 0, 1) := by decide +kernel
theorem dX4_flood_42 : decode cX4_flood 42 = .ok (.getfield 120, 3) := by decide +kernel
theorem dX4_flood_45 : decode cX4_flood 45 = .ok (.ireturn, 1) := by decide +kernel
set_option maxRecDepth 20000 in
theorem ggX4_farIn_X4_smellOf : GoodIn wsX4_farIn wsX4_smellOf := goodIn_r _ [5, 6, 7, 8, 9, 10, 11, 12, 13, 14, 4, 15, 16, 17, 18, 19, 20, 21, 22, 23, 24, 25, 29, 30, 31, 32, 33, 34, 35, 36, 37, 38, 39, 40, 41, 42, 43, 44, 45, 46, 47, 48, 49, 50, 51, 52, 53] (by decide +kernel) (by decide +kernel)
set_option maxRecDepth 20000 in
theorem gX4_farIn_X4_smellOf : GoodIn wsX4_farIn (wsV RX4 155 RX4 yX4_smellOf wsX4_smellOf) := goodIn_app (goodIn_of _ (by decide +kernel)) ggX4_farIn_X4_smellOf
set_option maxRecDepth 20000 in
theorem ggX4_farIn_X4_strong : GoodIn wsX4_farIn wsX4_strong := goodIn_r _ [15, 16, 29, 30, 31, 32, 33, 34, 35, 36, 37, 38, 39, 40, 41, 42, 43, 44, 45, 46, 47, 48, 49, 50, 51, 52, 53] (by decide +kernel) (by decide +kernel)
set_option maxRecDepth 20000 in
theorem gX4_farIn_X4_strong : GoodIn wsX4_farIn (wsV RX4 135 RX4 yX4_strong wsX4_strong) := goodIn_app (goodIn_of _ (by decide +kernel)) ggX4_farIn_X4_strong
set_option maxRecDepth 20000 in
theorem ggX4_farIn_X4_off : GoodIn wsX4_farIn wsX4_off := goodIn_r _ [28] (by decide +kernel) (by decide +kernel)
set_option maxRecDepth 20000 in
theorem gX4_farIn_X4_off : GoodIn wsX4_farIn (va_wsS RX4 159 yX4_off wsX4_off) := goodIn_app (goodIn_of _ (by decide +kernel)) ggX4_farIn_X4_off
theorem dX4_farIn_0 : decode cX4_farIn 0 = .ok (.iconst 0, 1) := by decide +kernel
theorem dX4_farIn_1 : decode cX4_farIn 1 = .ok (.istore 5, 2) := by decide +kernel
theorem dX4_farIn_3 : decode cX4_farIn 3 = .ok (.iconst 0, 1) := by decide +kernel
theorem dX4_farIn_4 : decode cX4_farIn 4 = .ok (.istore 6, 2) := by decide +kernel
theorem dX4_farIn_6 : decode cX4_farIn 6 = .ok (.iload 6, 2) := by decide +kernel
theorem dX4_farIn_8 : decode cX4_farIn 8 = .ok (.bipush 9, 2) := by decide +kernel
theorem dX4_farIn_10 : decode cX4_farIn 10 = .ok (.if_icmp .ge 43, 3) := by decide +kernel
theorem dX4_farIn_13 : decode cX4_farIn 13 = .ok (.iload 5, 2) := by decide +kernel
theorem dX4_farIn_15 : decode cX4_farIn 15 = .ok (.aload_n 0, 1) := by decide +kernel
theorem dX4_farIn_16 : decode cX4_farIn 16 = .ok (.iload_n 1, 1) := by decide +kernel
theorem dX4_farIn_17 : decode cX4_farIn 17 = .ok (.iload 6, 2) := by decide +kernel
theorem dX4_farIn_19 : decode cX4_farIn 19 = .ok (.iload 4, 2) := by decide +kernel
theorem dX4_farIn_21 : decode cX4_farIn 21 = .ok (.invokevirtual 155, 3) := by decide +kernel
theorem dX4_farIn_24 : decode cX4_farIn 24 = .ok (.iconst 4, 1) := by decide +kernel
theorem dX4_farIn_25 : decode cX4_farIn 25 = .ok (.aload_n 0, 1) := by decide +kernel
theorem dX4_farIn_26 : decode cX4_farIn 26 = .ok (.iload_n 2, 1) := by decide +kernel
theorem dX4_farIn_27 : decode cX4_farIn 27 = .ok (.iload 6, 2) := by decide +kernel
theorem dX4_farIn_29 : decode cX4_farIn 29 = .ok (.invokevirtual 135, 3) := by decide +kernel
theorem dX4_farIn_32 : decode cX4_farIn 32 = .ok (.aload_n 0, 1) := by decide +kernel
theorem dX4_farIn_33 : decode cX4_farIn 33 = .ok (.iload_n 3, 1) := by decide +kernel
theorem dX4_farIn_34 : decode cX4_farIn 34 = .ok (.iload 6, 2) := by decide +kernel
theorem dX4_farIn_36 : decode cX4_farIn 36 = .ok (.invokevirtual 135, 3) := by decide +kernel
theorem dX4_farIn_39 : decode cX4_farIn 39 = .ok (.iadd, 1) := by decide +kernel
theorem dX4_farIn_40 : decode cX4_farIn 40 = .ok (.imul, 1) := by decide +kernel
theorem dX4_farIn_41 : decode cX4_farIn 41 = .ok (.invokestatic 159, 3) := by decide +kernel
theorem dX4_farIn_44 : decode cX4_farIn 44 = .ok (.iadd, 1) := by decide +kernel
theorem dX4_farIn_45 : decode cX4_farIn 45 = .ok (.istore 5, 2) := by decide +kernel
theorem dX4_farIn_47 : decode cX4_farIn 47 = .ok (.iinc 6 1, 3) := by decide +kernel
theorem dX4_farIn_50 : decode cX4_farIn 50 = .ok (.goto (-44), 3) := by decide +kernel
theorem dX4_farIn_53 : decode cX4_farIn 53 = .ok (.iload 5, 2) := by decide +kernel
theorem dX4_farIn_55 : decode cX4_farIn 55 = .ok (.ireturn, 1) := by decide +kernel
set_option maxRecDepth 20000 in
theorem ggX4_far_X4_noPaper : GoodIn wsX4_far wsX4_noPaper := goodIn_r _ [6, 7, 8, 9, 5, 10, 51, 52, 53, 54, 55, 56, 57, 58, 59, 60, 61, 62, 63, 64, 65, 66, 67, 68, 69, 70, 71, 72, 73, 74, 75] (by decide +kernel) (by decide +kernel)
set_option maxRecDepth 20000 in
theorem gX4_far_X4_noPaper : GoodIn wsX4_far (wsV RX4 149 RX4 yX4_noPaper wsX4_noPaper) := goodIn_app (goodIn_of _ (by decide +kernel)) ggX4_far_X4_noPaper
set_option maxRecDepth 20000 in
theorem ggX4_far_X4_areTwo : GoodIn wsX4_far wsX4_areTwo := goodIn_r _ [14, 15, 16, 17, 5, 18, 19, 8, 9, 10, 51, 52, 53, 54, 55, 56, 57, 58, 59, 60, 61, 62, 63, 64, 65, 66, 67, 68, 69, 70, 71, 72, 73, 74, 75] (by decide +kernel) (by decide +kernel)
set_option maxRecDepth 20000 in
theorem gX4_far_X4_areTwo : GoodIn wsX4_far (wsV RX4 146 RX4 yX4_areTwo wsX4_areTwo) := goodIn_app (goodIn_of _ (by decide +kernel)) ggX4_far_X4_areTwo
set_option maxRecDepth 20000 in
theorem ggX4_far_X4_farIn : GoodIn wsX4_far wsX4_farIn := goodIn_r _ [23, 24, 25, 26, 5, 27, 28, 29, 30, 31, 32, 33, 34, 35, 36, 37, 38, 39, 40, 41, 42, 43, 44, 45, 46, 47, 48, 49, 50, 51, 52, 53, 54, 55, 56, 57, 58, 59, 60, 61, 62, 63, 64, 65, 66, 67, 68, 69, 70, 71, 72, 73, 74, 75] (by decide +kernel) (by decide +kernel)
set_option maxRecDepth 20000 in
theorem gX4_far_X4_farIn : GoodIn wsX4_far (wsV RX4 162 RX4 yX4_farIn wsX4_farIn) := goodIn_app (goodIn_of _ (by decide +kernel)) ggX4_far_X4_farIn
theorem dX4_far_0 : decode cX4_far 0 = .ok (.aload_n 0, 1) := by decide +kernel
theorem dX4_far_1 : decode cX4_far 1 = .ok (.iload_n 1, 1) := by decide +kernel
theorem dX4_far_2 : decode cX4_far 2 = .ok (.invokevirtual 149, 3) := by decide +kernel
theorem dX4_far_5 : decode cX4_far 5 = .ok (.ifCond .ne 12, 3) := by decide +kernel
theorem dX4_far_8 : decode cX4_far 8 = .ok (.aload_n 0, 1) := by decide +kernel
theorem dX4_far_9 : decode cX4_far 9 = .ok (.iload_n 2, 1) := by decide +kernel
theorem dX4_far_10 : decode cX4_far 10 = .ok (.iload_n 3, 1) := by decide +kernel
theorem dX4_far_11 : decode cX4_far 11 = .ok (.invokevirtual 146, 3) := by decide +kernel
theorem dX4_far_14 : decode cX4_far 14 = .ok (.ifCond .ne 7, 3) := by decide +kernel
theorem dX4_far_17 : decode cX4_far 17 = .ok (.iconst (-1), 1) := by decide +kernel
theorem dX4_far_18 : decode cX4_far 18 = .ok (.goto 14, 3) := by decide +kernel
theorem dX4_far_21 : decode cX4_far 21 = .ok (.aload_n 0, 1) := by decide +kernel
theorem dX4_far_22 : decode cX4_far 22 = .ok (.iload_n 1, 1) := by decide +kernel
theorem dX4_far_23 : decode cX4_far 23 = .ok (.iload_n 2, 1) := by decide +kernel
theorem dX4_far_24 : decode cX4_far 24 = .ok (.iload_n 3, 1) := by decide +kernel
theorem dX4_far_25 : decode cX4_far 25 = .ok (.aload_n 0, 1) := by decide +kernel
theorem dX4_far_26 : decode cX4_far 26 = .ok (.getfield 123, 3) := by decide +kernel
theorem dX4_far_29 : decode cX4_far 29 = .ok (.invokevirtual 162, 3) := by decide +kernel
theorem dX4_far_32 : decode cX4_far 32 = .ok (.ireturn, 1) := by decide +kernel
set_option maxRecDepth 20000 in
theorem ggX4_fits_X4_noPaper : GoodIn wsX4_fits wsX4_noPaper := goodIn_r _ [9, 10, 11, 12, 8, 13, 45, 46, 47, 48, 49, 50, 51, 52, 53, 54, 55, 56, 57, 58, 59, 60, 61, 62, 63, 64, 65, 66, 67, 68, 69] (by decide +kernel) (by decide +kernel)
set_option maxRecDepth 20000 in
theorem gX4_fits_X4_noPaper : GoodIn wsX4_fits (wsV RX4 149 RX4 yX4_noPaper wsX4_noPaper) := goodIn_app (goodIn_of _ (by decide +kernel)) ggX4_fits_X4_noPaper
set_option maxRecDepth 20000 in
theorem ggX4_fits_X4_in : GoodIn wsX4_fits wsX4_in := goodIn_r _ [13] (by decide +kernel) (by decide +kernel)
set_option maxRecDepth 20000 in
theorem gX4_fits_X4_in : GoodIn wsX4_fits (va_wsS RX4 81 yX4_in wsX4_in) := goodIn_app (goodIn_of _ (by decide +kernel)) ggX4_fits_X4_in
set_option maxRecDepth 20000 in
theorem ggX4_fits_X4_farIn : GoodIn wsX4_fits wsX4_farIn := goodIn_r _ [17, 18, 19, 20, 8, 21, 22, 23, 24, 25, 26, 27, 28, 29, 30, 31, 32, 33, 34, 35, 36, 37, 38, 39, 40, 41, 42, 43, 44, 45, 46, 47, 48, 49, 50, 51, 52, 53, 54, 55, 56, 57, 58, 59, 60, 61, 62, 63, 64, 65, 66, 67, 68, 69] (by decide +kernel) (by decide +kernel)
set_option maxRecDepth 20000 in
theorem gX4_fits_X4_farIn : GoodIn wsX4_fits (wsV RX4 162 RX4 yX4_farIn wsX4_farIn) := goodIn_app (goodIn_of _ (by decide +kernel)) ggX4_fits_X4_farIn
theorem dX4_fits_0 : decode cX4_fits 0 = .ok (.aload_n 0, 1) := by decide +kernel
theorem dX4_fits_1 : decode cX4_fits 1 = .ok (.iload_n 1, 1) := by decide +kernel
theorem dX4_fits_2 : decode cX4_fits 2 = .ok (.invokevirtual 149, 3) := by decide +kernel
theorem dX4_fits_5 : decode cX4_fits 5 = .ok (.ifCond .eq 5, 3) := by decide +kernel
theorem dX4_fits_8 : decode cX4_fits 8 = .ok (.iconst (-1), 1) := by decide +kernel
theorem dX4_fits_9 : decode cX4_fits 9 = .ok (.ireturn, 1) := by decide +kernel
theorem dX4_fits_10 : decode cX4_fits 10 = .ok (.iload_n 2, 1) := by decide +kernel
theorem dX4_fits_11 : decode cX4_fits 11 = .ok (.i2l, 1) := by decide +kernel
theorem dX4_fits_12 : decode cX4_fits 12 = .ok (.lconst 0, 1) := by decide +kernel
theorem dX4_fits_13 : decode cX4_fits 13 = .ok (.ldc2_w 79, 3) := by decide +kernel
theorem dX4_fits_16 : decode cX4_fits 16 = .ok (.invokestatic 81, 3) := by decide +kernel
theorem dX4_fits_19 : decode cX4_fits 19 = .ok (.ifCond .ne 6, 3) := by decide +kernel
theorem dX4_fits_22 : decode cX4_fits 22 = .ok (.bipush (-2), 2) := by decide +kernel
theorem dX4_fits_24 : decode cX4_fits 24 = .ok (.ireturn, 1) := by decide +kernel
theorem dX4_fits_25 : decode cX4_fits 25 = .ok (.iconst 0, 1) := by decide +kernel
theorem dX4_fits_26 : decode cX4_fits 26 = .ok (.istore_n 3, 1) := by decide +kernel
theorem dX4_fits_27 : decode cX4_fits 27 = .ok (.bipush (-9), 2) := by decide +kernel
theorem dX4_fits_29 : decode cX4_fits 29 = .ok (.istore 4, 2) := by decide +kernel
theorem dX4_fits_31 : decode cX4_fits 31 = .ok (.iconst 0, 1) := by decide +kernel
theorem dX4_fits_32 : decode cX4_fits 32 = .ok (.istore 5, 2) := by decide +kernel
theorem dX4_fits_34 : decode cX4_fits 34 = .ok (.iconst 0, 1) := by decide +kernel
theorem dX4_fits_35 : decode cX4_fits 35 = .ok (.istore 6, 2) := by decide +kernel
theorem dX4_fits_37 : decode cX4_fits 37 = .ok (.iload 6, 2) := by decide +kernel
theorem dX4_fits_39 : decode cX4_fits 39 = .ok (.aload_n 0, 1) := by decide +kernel
theorem dX4_fits_40 : decode cX4_fits 40 = .ok (.getfield 92, 3) := by decide +kernel
theorem dX4_fits_43 : decode cX4_fits 43 = .ok (.if_icmp .ge 88, 3) := by decide +kernel
theorem dX4_fits_46 : decode cX4_fits 46 = .ok (.iload 6, 2) := by decide +kernel
theorem dX4_fits_48 : decode cX4_fits 48 = .ok (.iconst 1, 1) := by decide +kernel
theorem dX4_fits_49 : decode cX4_fits 49 = .ok (.iadd, 1) := by decide +kernel
theorem dX4_fits_50 : decode cX4_fits 50 = .ok (.istore 7, 2) := by decide +kernel
theorem dX4_fits_52 : decode cX4_fits 52 = .ok (.iload 7, 2) := by decide +kernel
theorem dX4_fits_54 : decode cX4_fits 54 = .ok (.aload_n 0, 1) := by decide +kernel
theorem dX4_fits_55 : decode cX4_fits 55 = .ok (.getfield 92, 3) := by decide +kernel
theorem dX4_fits_58 : decode cX4_fits 58 = .ok (.if_icmp .ge 67, 3) := by decide +kernel
theorem dX4_fits_61 : decode cX4_fits 61 = .ok (.aload_n 0, 1) := by decide +kernel
theorem dX4_fits_62 : decode cX4_fits 62 = .ok (.iload_n 1, 1) := by decide +kernel
theorem dX4_fits_63 : decode cX4_fits 63 = .ok (.iload 6, 2) := by decide +kernel
theorem dX4_fits_65 : decode cX4_fits 65 = .ok (.iload 7, 2) := by decide +kernel
theorem dX4_fits_67 : decode cX4_fits 67 = .ok (.aload_n 0, 1) := by decide +kernel
theorem dX4_fits_68 : decode cX4_fits 68 = .ok (.getfield 123, 3) := by decide +kernel
theorem dX4_fits_71 : decode cX4_fits 71 = .ok (.invokevirtual 162, 3) := by decide +kernel
theorem dX4_fits_74 : decode cX4_fits 74 = .ok (.istore 8, 2) := by decide +kernel
theorem dX4_fits_76 : decode cX4_fits 76 = .ok (.iload_n 3, 1) := by decide +kernel
theorem dX4_fits_77 : decode cX4_fits 77 = .ok (.iload 8, 2) := by decide +kernel
theorem dX4_fits_79 : decode cX4_fits 79 = .ok (.aload_n 0, 1) := by decide +kernel
theorem dX4_fits_80 : decode cX4_fits 80 = .ok (.getfield 126, 3) := by decide +kernel
theorem dX4_fits_83 : decode cX4_fits 83 = .ok (.if_icmp .gt 7, 3) := by decide +kernel
theorem dX4_fits_86 : decode cX4_fits 86 = .ok (.iconst 1, 1) := by decide +kernel
theorem dX4_fits_87 : decode cX4_fits 87 = .ok (.goto 4, 3) := by decide +kernel
theorem dX4_fits_90 : decode cX4_fits 90 = .ok (.iconst 0, 1) := by decide +kernel
theorem dX4_fits_91 : decode cX4_fits 91 = .ok (.iadd, 1) := by decide +kernel
theorem dX4_fits_92 : decode cX4_fits 92 = .ok (.istore_n 3, 1) := by decide +kernel
theorem dX4_fits_93 : decode cX4_fits 93 = .ok (.iload 4, 2) := by decide +kernel
theorem dX4_fits_95 : decode cX4_fits 95 = .ok (.ifCond .lt 10, 3) := by decide +kernel
theorem dX4_fits_98 : decode cX4_fits 98 = .ok (.iload 8, 2) := by decide +kernel
theorem dX4_fits_100 : decode cX4_fits 100 = .ok (.iload 5, 2) := by decide +kernel
theorem dX4_fits_102 : decode cX4_fits 102 = .ok (.if_icmp .ge 17, 3) := by decide +kernel
theorem dX4_fits_105 : decode cX4_fits 105 = .ok (.bipush 10, 2) := by decide +kernel
theorem dX4_fits_107 : decode cX4_fits 107 = .ok (.iload 6, 2) := by decide +kernel
theorem dX4_fits_109 : decode cX4_fits 109 = .ok (.imul, 1) := by decide +kernel
theorem dX4_fits_110 : decode cX4_fits 110 = .ok (.iload 7, 2) := by decide +kernel
theorem dX4_fits_112 : decode cX4_fits 112 = .ok (.iadd, 1) := by decide +kernel
theorem dX4_fits_113 : decode cX4_fits 113 = .ok (.istore 4, 2) := by decide +kernel
theorem dX4_fits_115 : decode cX4_fits 115 = .ok (.iload 8, 2) := by decide +kernel
theorem dX4_fits_117 : decode cX4_fits 117 = .ok (.istore 5, 2) := by decide +kernel
theorem dX4_fits_119 : decode cX4_fits 119 = .ok (.iinc 7 1, 3) := by decide +kernel
theorem dX4_fits_122 : decode cX4_fits 122 = .ok (.goto (-70), 3) := by decide +kernel
theorem dX4_fits_125 : decode cX4_fits 125 = .ok (.iinc 6 1, 3) := by decide +kernel
theorem dX4_fits_128 : decode cX4_fits 128 = .ok (.goto (-91), 3) := by decide +kernel
theorem dX4_fits_131 : decode cX4_fits 131 = .ok (.iload_n 2, 1) := by decide +kernel
theorem dX4_fits_132 : decode cX4_fits 132 = .ok (.ifCond .ne 7, 3) := by decide +kernel
theorem dX4_fits_135 : decode cX4_fits 135 = .ok (.iload_n 3, 1) := by decide +kernel
theorem dX4_fits_136 : decode cX4_fits 136 = .ok (.goto 15, 3) := by decide +kernel
theorem dX4_fits_139 : decode cX4_fits 139 = .ok (.iload_n 2, 1) := by decide +kernel
theorem dX4_fits_140 : decode cX4_fits 140 = .ok (.iconst 1, 1) := by decide +kernel
theorem dX4_fits_141 : decode cX4_fits 141 = .ok (.if_icmp .ne 8, 3) := by decide +kernel
theorem dX4_fits_144 : decode cX4_fits 144 = .ok (.iload 4, 2) := by decide +kernel
theorem dX4_fits_146 : decode cX4_fits 146 = .ok (.goto 5, 3) := by decide +kernel
theorem dX4_fits_149 : decode cX4_fits 149 = .ok (.iload 5, 2) := by decide +kernel
theorem dX4_fits_151 : decode cX4_fits 151 = .ok (.ireturn, 1) := by decide +kernel
set_option maxRecDepth 20000 in
theorem ggX4_isProved_X4_greater : GoodIn wsX4_isProved wsX4_greater := goodIn_r _ [8] (by decide +kernel) (by decide +kernel)
set_option maxRecDepth 20000 in
theorem gX4_isProved_X4_greater : GoodIn wsX4_isProved (va_wsS RX4 152 yX4_greater wsX4_greater) := goodIn_app (goodIn_of _ (by decide +kernel)) ggX4_isProved_X4_greater
set_option maxRecDepth 20000 in
theorem ggX4_isProved_X4_farIn : GoodIn wsX4_isProved wsX4_farIn := goodIn_r _ [12, 13, 14, 15, 7, 16, 17, 1, 2, 18, 19, 20, 21, 22, 23, 24, 25, 26, 27, 28, 29, 30, 31, 5, 6, 8, 32, 33, 34, 35, 36, 37, 38, 39, 40, 41, 42, 43, 44, 45, 46, 47, 48, 49, 50, 51, 52, 53, 54, 55, 56, 57, 58, 59] (by decide +kernel) (by decide +kernel)
set_option maxRecDepth 20000 in
theorem gX4_isProved_X4_farIn : GoodIn wsX4_isProved (wsV RX4 162 RX4 yX4_farIn wsX4_farIn) := goodIn_app (goodIn_of _ (by decide +kernel)) ggX4_isProved_X4_farIn
theorem dX4_isProved_0 : decode cX4_isProved 0 = .ok (.aload_n 0, 1) := by decide +kernel
theorem dX4_isProved_1 : decode cX4_isProved 1 = .ok (.getfield 25, 3) := by decide +kernel
theorem dX4_isProved_4 : decode cX4_isProved 4 = .ok (.iload_n 1, 1) := by decide +kernel
theorem dX4_isProved_5 : decode cX4_isProved 5 = .ok (.iaload, 1) := by decide +kernel
theorem dX4_isProved_6 : decode cX4_isProved 6 = .ok (.aload_n 0, 1) := by decide +kernel
theorem dX4_isProved_7 : decode cX4_isProved 7 = .ok (.getfield 28, 3) := by decide +kernel
theorem dX4_isProved_10 : decode cX4_isProved 10 = .ok (.iload_n 1, 1) := by decide +kernel
theorem dX4_isProved_11 : decode cX4_isProved 11 = .ok (.iaload, 1) := by decide +kernel
theorem dX4_isProved_12 : decode cX4_isProved 12 = .ok (.if_icmp .ge 12, 3) := by decide +kernel
theorem dX4_isProved_15 : decode cX4_isProved 15 = .ok (.aload_n 0, 1) := by decide +kernel
theorem dX4_isProved_16 : decode cX4_isProved 16 = .ok (.getfield 25, 3) := by decide +kernel
theorem dX4_isProved_19 : decode cX4_isProved 19 = .ok (.iload_n 1, 1) := by decide +kernel
theorem dX4_isProved_20 : decode cX4_isProved 20 = .ok (.iaload, 1) := by decide +kernel
theorem dX4_isProved_21 : decode cX4_isProved 21 = .ok (.goto 9, 3) := by decide +kernel
theorem dX4_isProved_24 : decode cX4_isProved 24 = .ok (.aload_n 0, 1) := by decide +kernel
theorem dX4_isProved_25 : decode cX4_isProved 25 = .ok (.getfield 28, 3) := by decide +kernel
theorem dX4_isProved_28 : decode cX4_isProved 28 = .ok (.iload_n 1, 1) := by decide +kernel
theorem dX4_isProved_29 : decode cX4_isProved 29 = .ok (.iaload, 1) := by decide +kernel
theorem dX4_isProved_30 : decode cX4_isProved 30 = .ok (.istore_n 3, 1) := by decide +kernel
theorem dX4_isProved_31 : decode cX4_isProved 31 = .ok (.aload_n 0, 1) := by decide +kernel
theorem dX4_isProved_32 : decode cX4_isProved 32 = .ok (.getfield 25, 3) := by decide +kernel
theorem dX4_isProved_35 : decode cX4_isProved 35 = .ok (.iload_n 1, 1) := by decide +kernel
theorem dX4_isProved_36 : decode cX4_isProved 36 = .ok (.iaload, 1) := by decide +kernel
theorem dX4_isProved_37 : decode cX4_isProved 37 = .ok (.aload_n 0, 1) := by decide +kernel
theorem dX4_isProved_38 : decode cX4_isProved 38 = .ok (.getfield 28, 3) := by decide +kernel
theorem dX4_isProved_41 : decode cX4_isProved 41 = .ok (.iload_n 1, 1) := by decide +kernel
theorem dX4_isProved_42 : decode cX4_isProved 42 = .ok (.iaload, 1) := by decide +kernel
theorem dX4_isProved_43 : decode cX4_isProved 43 = .ok (.invokestatic 152, 3) := by decide +kernel
theorem dX4_isProved_46 : decode cX4_isProved 46 = .ok (.istore 4, 2) := by decide +kernel
theorem dX4_isProved_48 : decode cX4_isProved 48 = .ok (.aload_n 0, 1) := by decide +kernel
theorem dX4_isProved_49 : decode cX4_isProved 49 = .ok (.iload_n 1, 1) := by decide +kernel
theorem dX4_isProved_50 : decode cX4_isProved 50 = .ok (.iload_n 3, 1) := by decide +kernel
theorem dX4_isProved_51 : decode cX4_isProved 51 = .ok (.iload 4, 2) := by decide +kernel
theorem dX4_isProved_53 : decode cX4_isProved 53 = .ok (.iload_n 2, 1) := by decide +kernel
theorem dX4_isProved_54 : decode cX4_isProved 54 = .ok (.invokevirtual 162, 3) := by decide +kernel
theorem dX4_isProved_57 : decode cX4_isProved 57 = .ok (.istore 5, 2) := by decide +kernel
theorem dX4_isProved_59 : decode cX4_isProved 59 = .ok (.iload 5, 2) := by decide +kernel
theorem dX4_isProved_61 : decode cX4_isProved 61 = .ok (.aload_n 0, 1) := by decide +kernel
theorem dX4_isProved_62 : decode cX4_isProved 62 = .ok (.getfield 126, 3) := by decide +kernel
theorem dX4_isProved_65 : decode cX4_isProved 65 = .ok (.if_icmp .gt 7, 3) := by decide +kernel
theorem dX4_isProved_68 : decode cX4_isProved 68 = .ok (.iconst 1, 1) := by decide +kernel
theorem dX4_isProved_69 : decode cX4_isProved 69 = .ok (.goto 4, 3) := by decide +kernel
theorem dX4_isProved_72 : decode cX4_isProved 72 = .ok (.iconst 0, 1) := by decide +kernel
theorem dX4_isProved_73 : decode cX4_isProved 73 = .ok (.istore 6, 2) := by decide +kernel
theorem dX4_isProved_75 : decode cX4_isProved 75 = .ok (.iconst 0, 1) := by decide +kernel
theorem dX4_isProved_76 : decode cX4_isProved 76 = .ok (.istore 7, 2) := by decide +kernel
theorem dX4_isProved_78 : decode cX4_isProved 78 = .ok (.iload 7, 2) := by decide +kernel
theorem dX4_isProved_80 : decode cX4_isProved 80 = .ok (.aload_n 0, 1) := by decide +kernel
theorem dX4_isProved_81 : decode cX4_isProved 81 = .ok (.getfield 92, 3) := by decide +kernel
theorem dX4_isProved_84 : decode cX4_isProved 84 = .ok (.if_icmp .ge 70, 3) := by decide +kernel
theorem dX4_isProved_87 : decode cX4_isProved 87 = .ok (.iload 7, 2) := by decide +kernel
theorem dX4_isProved_89 : decode cX4_isProved 89 = .ok (.iconst 1, 1) := by decide +kernel
theorem dX4_isProved_90 : decode cX4_isProved 90 = .ok (.iadd, 1) := by decide +kernel
theorem dX4_isProved_91 : decode cX4_isProved 91 = .ok (.istore 8, 2) := by decide +kernel
theorem dX4_isProved_93 : decode cX4_isProved 93 = .ok (.iload 8, 2) := by decide +kernel
theorem dX4_isProved_95 : decode cX4_isProved 95 = .ok (.aload_n 0, 1) := by decide +kernel
theorem dX4_isProved_96 : decode cX4_isProved 96 = .ok (.getfield 92, 3) := by decide +kernel
theorem dX4_isProved_99 : decode cX4_isProved 99 = .ok (.if_icmp .ge 49, 3) := by decide +kernel
theorem dX4_isProved_102 : decode cX4_isProved 102 = .ok (.iload 6, 2) := by decide +kernel
theorem dX4_isProved_104 : decode cX4_isProved 104 = .ok (.ifCond .eq 35, 3) := by decide +kernel
theorem dX4_isProved_107 : decode cX4_isProved 107 = .ok (.iload 7, 2) := by decide +kernel
theorem dX4_isProved_109 : decode cX4_isProved 109 = .ok (.iload_n 3, 1) := by decide +kernel
theorem dX4_isProved_110 : decode cX4_isProved 110 = .ok (.if_icmp .ne 10, 3) := by decide +kernel
theorem dX4_isProved_113 : decode cX4_isProved 113 = .ok (.iload 8, 2) := by decide +kernel
theorem dX4_isProved_115 : decode cX4_isProved 115 = .ok (.iload 4, 2) := by decide +kernel
theorem dX4_isProved_117 : decode cX4_isProved 117 = .ok (.if_icmp .eq 18, 3) := by decide +kernel
theorem dX4_isProved_120 : decode cX4_isProved 120 = .ok (.aload_n 0, 1) := by decide +kernel
theorem dX4_isProved_121 : decode cX4_isProved 121 = .ok (.iload_n 1, 1) := by decide +kernel
theorem dX4_isProved_122 : decode cX4_isProved 122 = .ok (.iload 7, 2) := by decide +kernel
theorem dX4_isProved_124 : decode cX4_isProved 124 = .ok (.iload 8, 2) := by decide +kernel
theorem dX4_isProved_126 : decode cX4_isProved 126 = .ok (.iload_n 2, 1) := by decide +kernel
theorem dX4_isProved_127 : decode cX4_isProved 127 = .ok (.invokevirtual 162, 3) := by decide +kernel
theorem dX4_isProved_130 : decode cX4_isProved 130 = .ok (.iload 5, 2) := by decide +kernel
theorem dX4_isProved_132 : decode cX4_isProved 132 = .ok (.if_icmp .le 7, 3) := by decide +kernel
theorem dX4_isProved_135 : decode cX4_isProved 135 = .ok (.iconst 1, 1) := by decide +kernel
theorem dX4_isProved_136 : decode cX4_isProved 136 = .ok (.goto 4, 3) := by decide +kernel
theorem dX4_isProved_139 : decode cX4_isProved 139 = .ok (.iconst 0, 1) := by decide +kernel
theorem dX4_isProved_140 : decode cX4_isProved 140 = .ok (.istore 6, 2) := by decide +kernel
theorem dX4_isProved_142 : decode cX4_isProved 142 = .ok (.iinc 8 1, 3) := by decide +kernel
theorem dX4_isProved_145 : decode cX4_isProved 145 = .ok (.goto (-52), 3) := by decide +kernel
theorem dX4_isProved_148 : decode cX4_isProved 148 = .ok (.iinc 7 1, 3) := by decide +kernel
theorem dX4_isProved_151 : decode cX4_isProved 151 = .ok (.goto (-73), 3) := by decide +kernel
theorem dX4_isProved_154 : decode cX4_isProved 154 = .ok (.iload 6, 2) := by decide +kernel
theorem dX4_isProved_156 : decode cX4_isProved 156 = .ok (.ireturn, 1) := by decide +kernel
set_option maxRecDepth 20000 in
theorem ggX4_proved_X4_isProved : GoodIn wsX4_proved wsX4_isProved := goodIn_r _ [7, 8, 9, 10, 11, 12, 13, 6, 14, 15, 16, 17, 18, 19, 20, 21, 22, 23, 24, 25, 26, 27, 28, 29, 30, 31, 32, 33, 34, 35, 36, 37, 38, 39, 40, 41, 42, 43, 44, 45, 46, 47, 48, 49, 50, 51, 52, 53, 54, 55, 56, 57, 58, 59, 60, 61, 62, 63, 64, 65] (by decide +kernel) (by decide +kernel)
set_option maxRecDepth 20000 in
theorem gX4_proved_X4_isProved : GoodIn wsX4_proved (wsV RX4 165 RX4 yX4_isProved wsX4_isProved) := goodIn_app (goodIn_of _ (by decide +kernel)) ggX4_proved_X4_isProved
theorem dX4_proved_0 : decode cX4_proved 0 = .ok (.iconst 0, 1) := by decide +kernel
theorem dX4_proved_1 : decode cX4_proved 1 = .ok (.istore_n 1, 1) := by decide +kernel
theorem dX4_proved_2 : decode cX4_proved 2 = .ok (.iconst 0, 1) := by decide +kernel
theorem dX4_proved_3 : decode cX4_proved 3 = .ok (.istore_n 2, 1) := by decide +kernel
theorem dX4_proved_4 : decode cX4_proved 4 = .ok (.iload_n 2, 1) := by decide +kernel
theorem dX4_proved_5 : decode cX4_proved 5 = .ok (.aload_n 0, 1) := by decide +kernel
theorem dX4_proved_6 : decode cX4_proved 6 = .ok (.getfield 120, 3) := by decide +kernel
theorem dX4_proved_9 : decode cX4_proved 9 = .ok (.if_icmp .ge 31, 3) := by decide +kernel
theorem dX4_proved_12 : decode cX4_proved 12 = .ok (.iload_n 1, 1) := by decide +kernel
theorem dX4_proved_13 : decode cX4_proved 13 = .ok (.aload_n 0, 1) := by decide +kernel
theorem dX4_proved_14 : decode cX4_proved 14 = .ok (.iload_n 2, 1) := by decide +kernel
theorem dX4_proved_15 : decode cX4_proved 15 = .ok (.aload_n 0, 1) := by decide +kernel
theorem dX4_proved_16 : decode cX4_proved 16 = .ok (.getfield 123, 3) := by decide +kernel
theorem dX4_proved_19 : decode cX4_proved 19 = .ok (.invokevirtual 165, 3) := by decide +kernel
theorem dX4_proved_22 : decode cX4_proved 22 = .ok (.ifCond .eq 9, 3) := by decide +kernel
theorem dX4_proved_25 : decode cX4_proved 25 = .ok (.iconst 1, 1) := by decide +kernel
theorem dX4_proved_26 : decode cX4_proved 26 = .ok (.iload_n 2, 1) := by decide +kernel
theorem dX4_proved_27 : decode cX4_proved 27 = .ok (.ishl, 1) := by decide +kernel
theorem dX4_proved_28 : decode cX4_proved 28 = .ok (.goto 4, 3) := by decide +kernel
theorem dX4_proved_31 : decode cX4_proved 31 = .ok (.iconst 0, 1) := by decide +kernel
theorem dX4_proved_32 : decode cX4_proved 32 = .ok (.ior, 1) := by decide +kernel
theorem dX4_proved_33 : decode cX4_proved 33 = .ok (.istore_n 1, 1) := by decide +kernel
theorem dX4_proved_34 : decode cX4_proved 34 = .ok (.iinc 2 1, 3) := by decide +kernel
theorem dX4_proved_37 : decode cX4_proved 37 = .ok (.goto (-33), 3) := by decide +kernel
theorem dX4_proved_40 : decode cX4_proved 40 = .ok (.iload_n 1, 1) := by decide +kernel
theorem dX4_proved_41 : decode cX4_proved 41 = .ok (.ireturn, 1) := by decide +kernel
set_option maxRecDepth 20000 in
theorem ggX4_again_X4_noPaper : GoodIn wsX4_again wsX4_noPaper := goodIn_r _ [6, 7, 8, 9, 5, 10, 48, 49, 50, 51, 52, 53, 54, 55, 56, 57, 58, 59, 60, 61, 62, 63, 64, 65, 66, 67, 68, 69, 70, 71, 72] (by decide +kernel) (by decide +kernel)
set_option maxRecDepth 20000 in
theorem gX4_again_X4_noPaper : GoodIn wsX4_again (wsV RX4 149 RX4 yX4_noPaper wsX4_noPaper) := goodIn_app (goodIn_of _ (by decide +kernel)) ggX4_again_X4_noPaper
set_option maxRecDepth 20000 in
theorem ggX4_again_X4_isProved : GoodIn wsX4_again wsX4_isProved := goodIn_r _ [14, 15, 16, 17, 18, 19, 20, 5, 21, 22, 23, 24, 25, 26, 27, 28, 29, 30, 31, 32, 33, 34, 35, 36, 37, 38, 39, 40, 41, 42, 43, 44, 45, 46, 47, 48, 49, 50, 51, 52, 53, 54, 55, 56, 57, 58, 59, 60, 61, 62, 63, 64, 65, 66, 67, 68, 69, 70, 71, 72] (by decide +kernel) (by decide +kernel)
set_option maxRecDepth 20000 in
theorem gX4_again_X4_isProved : GoodIn wsX4_again (wsV RX4 165 RX4 yX4_isProved wsX4_isProved) := goodIn_app (goodIn_of _ (by decide +kernel)) ggX4_again_X4_isProved
theorem dX4_again_0 : decode cX4_again 0 = .ok (.aload_n 0, 1) := by decide +kernel
theorem dX4_again_1 : decode cX4_again 1 = .ok (.iload_n 1, 1) := by decide +kernel
theorem dX4_again_2 : decode cX4_again 2 = .ok (.invokevirtual 149, 3) := by decide +kernel
theorem dX4_again_5 : decode cX4_again 5 = .ok (.ifCond .eq 5, 3) := by decide +kernel
theorem dX4_again_8 : decode cX4_again 8 = .ok (.iconst (-1), 1) := by decide +kernel
theorem dX4_again_9 : decode cX4_again 9 = .ok (.ireturn, 1) := by decide +kernel
theorem dX4_again_10 : decode cX4_again 10 = .ok (.aload_n 0, 1) := by decide +kernel
theorem dX4_again_11 : decode cX4_again 11 = .ok (.getfield 123, 3) := by decide +kernel
theorem dX4_again_14 : decode cX4_again 14 = .ok (.istore_n 2, 1) := by decide +kernel
theorem dX4_again_15 : decode cX4_again 15 = .ok (.iload_n 2, 1) := by decide +kernel
theorem dX4_again_16 : decode cX4_again 16 = .ok (.bipush 99, 2) := by decide +kernel
theorem dX4_again_18 : decode cX4_again 18 = .ok (.if_icmp .gt 20, 3) := by decide +kernel
theorem dX4_again_21 : decode cX4_again 21 = .ok (.aload_n 0, 1) := by decide +kernel
theorem dX4_again_22 : decode cX4_again 22 = .ok (.iload_n 1, 1) := by decide +kernel
theorem dX4_again_23 : decode cX4_again 23 = .ok (.iload_n 2, 1) := by decide +kernel
theorem dX4_again_24 : decode cX4_again 24 = .ok (.invokevirtual 165, 3) := by decide +kernel
theorem dX4_again_27 : decode cX4_again 27 = .ok (.ifCond .ne 5, 3) := by decide +kernel
theorem dX4_again_30 : decode cX4_again 30 = .ok (.iload_n 2, 1) := by decide +kernel
theorem dX4_again_31 : decode cX4_again 31 = .ok (.ireturn, 1) := by decide +kernel
theorem dX4_again_32 : decode cX4_again 32 = .ok (.iinc 2 1, 3) := by decide +kernel
theorem dX4_again_35 : decode cX4_again 35 = .ok (.goto (-20), 3) := by decide +kernel
theorem dX4_again_38 : decode cX4_again 38 = .ok (.bipush (-9), 2) := by decide +kernel
theorem dX4_again_40 : decode cX4_again 40 = .ok (.ireturn, 1) := by decide +kernel
set_option maxRecDepth 20000 in
theorem ggX4_apartBy_X4_strong : GoodIn wsX4_apartBy wsX4_strong := goodIn_r _ [5, 6, 10, 11, 12, 13, 14, 15, 16, 17, 18, 19, 20, 21, 22, 23, 24, 25, 26, 27, 28, 29, 30, 31, 32, 33, 34] (by decide +kernel) (by decide +kernel)
set_option maxRecDepth 20000 in
theorem gX4_apartBy_X4_strong : GoodIn wsX4_apartBy (wsV RX4 135 RX4 yX4_strong wsX4_strong) := goodIn_app (goodIn_of _ (by decide +kernel)) ggX4_apartBy_X4_strong
set_option maxRecDepth 20000 in
theorem ggX4_apartBy_X4_off : GoodIn wsX4_apartBy wsX4_off := goodIn_r _ [9] (by decide +kernel) (by decide +kernel)
set_option maxRecDepth 20000 in
theorem gX4_apartBy_X4_off : GoodIn wsX4_apartBy (va_wsS RX4 159 yX4_off wsX4_off) := goodIn_app (goodIn_of _ (by decide +kernel)) ggX4_apartBy_X4_off
theorem dX4_apartBy_0 : decode cX4_apartBy 0 = .ok (.iconst 0, 1) := by decide +kernel
theorem dX4_apartBy_1 : decode cX4_apartBy 1 = .ok (.istore_n 3, 1) := by decide +kernel
theorem dX4_apartBy_2 : decode cX4_apartBy 2 = .ok (.iconst 0, 1) := by decide +kernel
theorem dX4_apartBy_3 : decode cX4_apartBy 3 = .ok (.istore 4, 2) := by decide +kernel
theorem dX4_apartBy_5 : decode cX4_apartBy 5 = .ok (.iload 4, 2) := by decide +kernel
theorem dX4_apartBy_7 : decode cX4_apartBy 7 = .ok (.bipush 9, 2) := by decide +kernel
theorem dX4_apartBy_9 : decode cX4_apartBy 9 = .ok (.if_icmp .ge 29, 3) := by decide +kernel
theorem dX4_apartBy_12 : decode cX4_apartBy 12 = .ok (.iload_n 3, 1) := by decide +kernel
theorem dX4_apartBy_13 : decode cX4_apartBy 13 = .ok (.aload_n 0, 1) := by decide +kernel
theorem dX4_apartBy_14 : decode cX4_apartBy 14 = .ok (.iload_n 1, 1) := by decide +kernel
theorem dX4_apartBy_15 : decode cX4_apartBy 15 = .ok (.iload 4, 2) := by decide +kernel
theorem dX4_apartBy_17 : decode cX4_apartBy 17 = .ok (.invokevirtual 135, 3) := by decide +kernel
theorem dX4_apartBy_20 : decode cX4_apartBy 20 = .ok (.aload_n 0, 1) := by decide +kernel
theorem dX4_apartBy_21 : decode cX4_apartBy 21 = .ok (.iload_n 2, 1) := by decide +kernel
theorem dX4_apartBy_22 : decode cX4_apartBy 22 = .ok (.iload 4, 2) := by decide +kernel
theorem dX4_apartBy_24 : decode cX4_apartBy 24 = .ok (.invokevirtual 135, 3) := by decide +kernel
theorem dX4_apartBy_27 : decode cX4_apartBy 27 = .ok (.invokestatic 159, 3) := by decide +kernel
theorem dX4_apartBy_30 : decode cX4_apartBy 30 = .ok (.iadd, 1) := by decide +kernel
theorem dX4_apartBy_31 : decode cX4_apartBy 31 = .ok (.istore_n 3, 1) := by decide +kernel
theorem dX4_apartBy_32 : decode cX4_apartBy 32 = .ok (.iinc 4 1, 3) := by decide +kernel
theorem dX4_apartBy_35 : decode cX4_apartBy 35 = .ok (.goto (-30), 3) := by decide +kernel
theorem dX4_apartBy_38 : decode cX4_apartBy 38 = .ok (.iload_n 3, 1) := by decide +kernel
theorem dX4_apartBy_39 : decode cX4_apartBy 39 = .ok (.ireturn, 1) := by decide +kernel
set_option maxRecDepth 20000 in
theorem ggX4_apart_X4_noSign : GoodIn wsX4_apart wsX4_noSign := goodIn_r _ [5, 6, 7, 8, 4, 9, 22, 23, 24, 25, 26, 27, 28, 29, 30, 31, 32, 33, 34, 35, 36, 37, 38, 39, 40, 41, 42, 43, 44, 45, 46] (by decide +kernel) (by decide +kernel)
set_option maxRecDepth 20000 in
theorem gX4_apart_X4_noSign : GoodIn wsX4_apart (wsV RX4 129 RX4 yX4_noSign wsX4_noSign) := goodIn_app (goodIn_of _ (by decide +kernel)) ggX4_apart_X4_noSign
set_option maxRecDepth 20000 in
theorem ggX4_apart_X4_apartBy : GoodIn wsX4_apart wsX4_apartBy := goodIn_r _ [13, 14, 15, 16, 4, 17, 18, 19, 20, 21, 22, 23, 24, 25, 26, 27, 28, 29, 30, 31, 32, 33, 34, 35, 36, 37, 38, 39, 40, 41, 42, 43, 44, 45, 46] (by decide +kernel) (by decide +kernel)
set_option maxRecDepth 20000 in
theorem gX4_apart_X4_apartBy : GoodIn wsX4_apart (wsV RX4 168 RX4 yX4_apartBy wsX4_apartBy) := goodIn_app (goodIn_of _ (by decide +kernel)) ggX4_apart_X4_apartBy
theorem dX4_apart_0 : decode cX4_apart 0 = .ok (.aload_n 0, 1) := by decide +kernel
theorem dX4_apart_1 : decode cX4_apart 1 = .ok (.iload_n 1, 1) := by decide +kernel
theorem dX4_apart_2 : decode cX4_apart 2 = .ok (.invokevirtual 129, 3) := by decide +kernel
theorem dX4_apart_5 : decode cX4_apart 5 = .ok (.ifCond .ne 11, 3) := by decide +kernel
theorem dX4_apart_8 : decode cX4_apart 8 = .ok (.aload_n 0, 1) := by decide +kernel
theorem dX4_apart_9 : decode cX4_apart 9 = .ok (.iload_n 2, 1) := by decide +kernel
theorem dX4_apart_10 : decode cX4_apart 10 = .ok (.invokevirtual 129, 3) := by decide +kernel
theorem dX4_apart_13 : decode cX4_apart 13 = .ok (.ifCond .eq 7, 3) := by decide +kernel
theorem dX4_apart_16 : decode cX4_apart 16 = .ok (.iconst (-1), 1) := by decide +kernel
theorem dX4_apart_17 : decode cX4_apart 17 = .ok (.goto 9, 3) := by decide +kernel
theorem dX4_apart_20 : decode cX4_apart 20 = .ok (.aload_n 0, 1) := by decide +kernel
theorem dX4_apart_21 : decode cX4_apart 21 = .ok (.iload_n 1, 1) := by decide +kernel
theorem dX4_apart_22 : decode cX4_apart 22 = .ok (.iload_n 2, 1) := by decide +kernel
theorem dX4_apart_23 : decode cX4_apart 23 = .ok (.invokevirtual 168, 3) := by decide +kernel
theorem dX4_apart_26 : decode cX4_apart 26 = .ok (.ireturn, 1) := by decide +kernel
set_option maxRecDepth 20000 in
theorem ggX4_twins_X4_apartBy : GoodIn wsX4_twins wsX4_apartBy := goodIn_r _ [7, 8, 9, 10, 6, 11, 12, 13, 14, 15, 16, 17, 18, 19, 20, 21, 22, 23, 24, 25, 26, 27, 28, 29, 30, 31, 32, 33, 34, 35, 36, 37, 38, 39, 40] (by decide +kernel) (by decide +kernel)
set_option maxRecDepth 20000 in
theorem gX4_twins_X4_apartBy : GoodIn wsX4_twins (wsV RX4 168 RX4 yX4_apartBy wsX4_apartBy) := goodIn_app (goodIn_of _ (by decide +kernel)) ggX4_twins_X4_apartBy
theorem dX4_twins_0 : decode cX4_twins 0 = .ok (.iload_n 1, 1) := by decide +kernel
theorem dX4_twins_1 : decode cX4_twins 1 = .ok (.iconst (-1), 1) := by decide +kernel
theorem dX4_twins_2 : decode cX4_twins 2 = .ok (.if_icmp .ge 5, 3) := by decide +kernel
theorem dX4_twins_5 : decode cX4_twins 5 = .ok (.iconst (-1), 1) := by decide +kernel
theorem dX4_twins_6 : decode cX4_twins 6 = .ok (.ireturn, 1) := by decide +kernel
theorem dX4_twins_7 : decode cX4_twins 7 = .ok (.iconst 0, 1) := by decide +kernel
theorem dX4_twins_8 : decode cX4_twins 8 = .ok (.istore_n 2, 1) := by decide +kernel
theorem dX4_twins_9 : decode cX4_twins 9 = .ok (.bipush (-9), 2) := by decide +kernel
theorem dX4_twins_11 : decode cX4_twins 11 = .ok (.istore_n 3, 1) := by decide +kernel
theorem dX4_twins_12 : decode cX4_twins 12 = .ok (.iconst 0, 1) := by decide +kernel
theorem dX4_twins_13 : decode cX4_twins 13 = .ok (.istore 4, 2) := by decide +kernel
theorem dX4_twins_15 : decode cX4_twins 15 = .ok (.iload 4, 2) := by decide +kernel
theorem dX4_twins_17 : decode cX4_twins 17 = .ok (.aload_n 0, 1) := by decide +kernel
theorem dX4_twins_18 : decode cX4_twins 18 = .ok (.getfield 92, 3) := by decide +kernel
theorem dX4_twins_21 : decode cX4_twins 21 = .ok (.if_icmp .ge 69, 3) := by decide +kernel
theorem dX4_twins_24 : decode cX4_twins 24 = .ok (.iload 4, 2) := by decide +kernel
theorem dX4_twins_26 : decode cX4_twins 26 = .ok (.iconst 1, 1) := by decide +kernel
theorem dX4_twins_27 : decode cX4_twins 27 = .ok (.iadd, 1) := by decide +kernel
theorem dX4_twins_28 : decode cX4_twins 28 = .ok (.istore 5, 2) := by decide +kernel
theorem dX4_twins_30 : decode cX4_twins 30 = .ok (.iload 5, 2) := by decide +kernel
theorem dX4_twins_32 : decode cX4_twins 32 = .ok (.aload_n 0, 1) := by decide +kernel
theorem dX4_twins_33 : decode cX4_twins 33 = .ok (.getfield 92, 3) := by decide +kernel
theorem dX4_twins_36 : decode cX4_twins 36 = .ok (.if_icmp .ge 48, 3) := by decide +kernel
theorem dX4_twins_39 : decode cX4_twins 39 = .ok (.bipush 8, 2) := by decide +kernel
theorem dX4_twins_41 : decode cX4_twins 41 = .ok (.aload_n 0, 1) := by decide +kernel
theorem dX4_twins_42 : decode cX4_twins 42 = .ok (.iload 4, 2) := by decide +kernel
theorem dX4_twins_44 : decode cX4_twins 44 = .ok (.iload 5, 2) := by decide +kernel
theorem dX4_twins_46 : decode cX4_twins 46 = .ok (.invokevirtual 168, 3) := by decide +kernel
theorem dX4_twins_49 : decode cX4_twins 49 = .ok (.imul, 1) := by decide +kernel
theorem dX4_twins_50 : decode cX4_twins 50 = .ok (.aload_n 0, 1) := by decide +kernel
theorem dX4_twins_51 : decode cX4_twins 51 = .ok (.getfield 126, 3) := by decide +kernel
theorem dX4_twins_54 : decode cX4_twins 54 = .ok (.if_icmp .gt 24, 3) := by decide +kernel
theorem dX4_twins_57 : decode cX4_twins 57 = .ok (.iload_n 2, 1) := by decide +kernel
theorem dX4_twins_58 : decode cX4_twins 58 = .ok (.iload_n 1, 1) := by decide +kernel
theorem dX4_twins_59 : decode cX4_twins 59 = .ok (.if_icmp .ne 14, 3) := by decide +kernel
theorem dX4_twins_62 : decode cX4_twins 62 = .ok (.bipush 10, 2) := by decide +kernel
theorem dX4_twins_64 : decode cX4_twins 64 = .ok (.iload 4, 2) := by decide +kernel
theorem dX4_twins_66 : decode cX4_twins 66 = .ok (.imul, 1) := by decide +kernel
theorem dX4_twins_67 : decode cX4_twins 67 = .ok (.iload 5, 2) := by decide +kernel
theorem dX4_twins_69 : decode cX4_twins 69 = .ok (.iadd, 1) := by decide +kernel
theorem dX4_twins_70 : decode cX4_twins 70 = .ok (.goto 4, 3) := by decide +kernel
theorem dX4_twins_73 : decode cX4_twins 73 = .ok (.iload_n 3, 1) := by decide +kernel
theorem dX4_twins_74 : decode cX4_twins 74 = .ok (.istore_n 3, 1) := by decide +kernel
theorem dX4_twins_75 : decode cX4_twins 75 = .ok (.iinc 2 1, 3) := by decide +kernel
theorem dX4_twins_78 : decode cX4_twins 78 = .ok (.iinc 5 1, 3) := by decide +kernel
theorem dX4_twins_81 : decode cX4_twins 81 = .ok (.goto (-51), 3) := by decide +kernel
theorem dX4_twins_84 : decode cX4_twins 84 = .ok (.iinc 4 1, 3) := by decide +kernel
theorem dX4_twins_87 : decode cX4_twins 87 = .ok (.goto (-72), 3) := by decide +kernel
theorem dX4_twins_90 : decode cX4_twins 90 = .ok (.iload_n 1, 1) := by decide +kernel
theorem dX4_twins_91 : decode cX4_twins 91 = .ok (.ifCond .ge 7, 3) := by decide +kernel
theorem dX4_twins_94 : decode cX4_twins 94 = .ok (.iload_n 2, 1) := by decide +kernel
theorem dX4_twins_95 : decode cX4_twins 95 = .ok (.goto 4, 3) := by decide +kernel
theorem dX4_twins_98 : decode cX4_twins 98 = .ok (.iload_n 3, 1) := by decide +kernel
theorem dX4_twins_99 : decode cX4_twins 99 = .ok (.ireturn, 1) := by decide +kernel
set_option maxRecDepth 20000 in
theorem ggX4_isTaken_X4_strong : GoodIn wsX4_isTaken wsX4_strong := goodIn_r _ [7, 8, 12, 13, 14, 15, 16, 17, 18, 19, 20, 21, 22, 23, 24, 25, 26, 27, 28, 29, 30, 31, 32, 33, 34, 35, 36] (by decide +kernel) (by decide +kernel)
set_option maxRecDepth 20000 in
theorem gX4_isTaken_X4_strong : GoodIn wsX4_isTaken (wsV RX4 135 RX4 yX4_strong wsX4_strong) := goodIn_app (goodIn_of _ (by decide +kernel)) ggX4_isTaken_X4_strong
set_option maxRecDepth 20000 in
theorem ggX4_isTaken_X4_off : GoodIn wsX4_isTaken wsX4_off := goodIn_r _ [11] (by decide +kernel) (by decide +kernel)
set_option maxRecDepth 20000 in
theorem gX4_isTaken_X4_off : GoodIn wsX4_isTaken (va_wsS RX4 159 yX4_off wsX4_off) := goodIn_app (goodIn_of _ (by decide +kernel)) ggX4_isTaken_X4_off
theorem dX4_isTaken_0 : decode cX4_isTaken 0 = .ok (.iconst 0, 1) := by decide +kernel
theorem dX4_isTaken_1 : decode cX4_isTaken 1 = .ok (.istore_n 2, 1) := by decide +kernel
theorem dX4_isTaken_2 : decode cX4_isTaken 2 = .ok (.iconst 0, 1) := by decide +kernel
theorem dX4_isTaken_3 : decode cX4_isTaken 3 = .ok (.istore_n 3, 1) := by decide +kernel
theorem dX4_isTaken_4 : decode cX4_isTaken 4 = .ok (.iload_n 3, 1) := by decide +kernel
theorem dX4_isTaken_5 : decode cX4_isTaken 5 = .ok (.bipush 9, 2) := by decide +kernel
theorem dX4_isTaken_7 : decode cX4_isTaken 7 = .ok (.if_icmp .ge 27, 3) := by decide +kernel
theorem dX4_isTaken_10 : decode cX4_isTaken 10 = .ok (.iload_n 2, 1) := by decide +kernel
theorem dX4_isTaken_11 : decode cX4_isTaken 11 = .ok (.aload_n 0, 1) := by decide +kernel
theorem dX4_isTaken_12 : decode cX4_isTaken 12 = .ok (.getfield 43, 3) := by decide +kernel
theorem dX4_isTaken_15 : decode cX4_isTaken 15 = .ok (.iload_n 3, 1) := by decide +kernel
theorem dX4_isTaken_16 : decode cX4_isTaken 16 = .ok (.iaload, 1) := by decide +kernel
theorem dX4_isTaken_17 : decode cX4_isTaken 17 = .ok (.aload_n 0, 1) := by decide +kernel
theorem dX4_isTaken_18 : decode cX4_isTaken 18 = .ok (.iload_n 1, 1) := by decide +kernel
theorem dX4_isTaken_19 : decode cX4_isTaken 19 = .ok (.iload_n 3, 1) := by decide +kernel
theorem dX4_isTaken_20 : decode cX4_isTaken 20 = .ok (.invokevirtual 135, 3) := by decide +kernel
theorem dX4_isTaken_23 : decode cX4_isTaken 23 = .ok (.invokestatic 159, 3) := by decide +kernel
theorem dX4_isTaken_26 : decode cX4_isTaken 26 = .ok (.iadd, 1) := by decide +kernel
theorem dX4_isTaken_27 : decode cX4_isTaken 27 = .ok (.istore_n 2, 1) := by decide +kernel
theorem dX4_isTaken_28 : decode cX4_isTaken 28 = .ok (.iinc 3 1, 3) := by decide +kernel
theorem dX4_isTaken_31 : decode cX4_isTaken 31 = .ok (.goto (-27), 3) := by decide +kernel
theorem dX4_isTaken_34 : decode cX4_isTaken 34 = .ok (.bipush 8, 2) := by decide +kernel
theorem dX4_isTaken_36 : decode cX4_isTaken 36 = .ok (.iload_n 2, 1) := by decide +kernel
theorem dX4_isTaken_37 : decode cX4_isTaken 37 = .ok (.imul, 1) := by decide +kernel
theorem dX4_isTaken_38 : decode cX4_isTaken 38 = .ok (.aload_n 0, 1) := by decide +kernel
theorem dX4_isTaken_39 : decode cX4_isTaken 39 = .ok (.getfield 126, 3) := by decide +kernel
theorem dX4_isTaken_42 : decode cX4_isTaken 42 = .ok (.if_icmp .gt 7, 3) := by decide +kernel
theorem dX4_isTaken_45 : decode cX4_isTaken 45 = .ok (.iconst 1, 1) := by decide +kernel
theorem dX4_isTaken_46 : decode cX4_isTaken 46 = .ok (.goto 4, 3) := by decide +kernel
theorem dX4_isTaken_49 : decode cX4_isTaken 49 = .ok (.iconst 0, 1) := by decide +kernel
theorem dX4_isTaken_50 : decode cX4_isTaken 50 = .ok (.ireturn, 1) := by decide +kernel
theorem dX4_bits_0 : decode cX4_bits 0 = .ok (.iconst 0, 1) := by decide +kernel
theorem dX4_bits_1 : decode cX4_bits 1 = .ok (.istore_n 1, 1) := by decide +kernel
theorem dX4_bits_2 : decode cX4_bits 2 = .ok (.iload_n 0, 1) := by decide +kernel
theorem dX4_bits_3 : decode cX4_bits 3 = .ok (.istore_n 2, 1) := by decide +kernel
theorem dX4_bits_4 : decode cX4_bits 4 = .ok (.iload_n 2, 1) := by decide +kernel
theorem dX4_bits_5 : decode cX4_bits 5 = .ok (.ifCond .le 16, 3) := by decide +kernel
theorem dX4_bits_8 : decode cX4_bits 8 = .ok (.iload_n 1, 1) := by decide +kernel
theorem dX4_bits_9 : decode cX4_bits 9 = .ok (.iload_n 2, 1) := by decide +kernel
theorem dX4_bits_10 : decode cX4_bits 10 = .ok (.iconst 1, 1) := by decide +kernel
theorem dX4_bits_11 : decode cX4_bits 11 = .ok (.iand, 1) := by decide +kernel
theorem dX4_bits_12 : decode cX4_bits 12 = .ok (.iadd, 1) := by decide +kernel
theorem dX4_bits_13 : decode cX4_bits 13 = .ok (.istore_n 1, 1) := by decide +kernel
theorem dX4_bits_14 : decode cX4_bits 14 = .ok (.iload_n 2, 1) := by decide +kernel
theorem dX4_bits_15 : decode cX4_bits 15 = .ok (.iconst 1, 1) := by decide +kernel
theorem dX4_bits_16 : decode cX4_bits 16 = .ok (.ishr, 1) := by decide +kernel
theorem dX4_bits_17 : decode cX4_bits 17 = .ok (.istore_n 2, 1) := by decide +kernel
theorem dX4_bits_18 : decode cX4_bits 18 = .ok (.goto (-14), 3) := by decide +kernel
theorem dX4_bits_21 : decode cX4_bits 21 = .ok (.iload_n 1, 1) := by decide +kernel
theorem dX4_bits_22 : decode cX4_bits 22 = .ok (.ireturn, 1) := by decide +kernel
set_option maxRecDepth 20000 in
theorem ggX4_forges_X4_strong : GoodIn wsX4_forges wsX4_strong := goodIn_r _ [7, 8, 17, 18, 19, 20, 21, 22, 23, 24, 25, 26, 27, 28, 29, 30, 31, 32, 33, 34, 35, 36, 37, 38, 39, 40, 41] (by decide +kernel) (by decide +kernel)
set_option maxRecDepth 20000 in
theorem gX4_forges_X4_strong : GoodIn wsX4_forges (wsV RX4 135 RX4 yX4_strong wsX4_strong) := goodIn_app (goodIn_of _ (by decide +kernel)) ggX4_forges_X4_strong
set_option maxRecDepth 20000 in
theorem ggX4_forges_X4_isTaken : GoodIn wsX4_forges wsX4_isTaken := goodIn_r _ [12, 1, 13, 3, 4, 5, 6, 7, 8, 14, 15, 16, 17, 18, 19, 20, 21, 22, 23, 24, 25, 26, 27, 28, 29, 30, 31, 32, 33, 34, 35, 36, 37, 38, 39, 40, 41] (by decide +kernel) (by decide +kernel)
set_option maxRecDepth 20000 in
theorem gX4_forges_X4_isTaken : GoodIn wsX4_forges (wsV RX4 171 RX4 yX4_isTaken wsX4_isTaken) := goodIn_app (goodIn_of _ (by decide +kernel)) ggX4_forges_X4_isTaken
theorem dX4_forges_0 : decode cX4_forges 0 = .ok (.iconst 0, 1) := by decide +kernel
theorem dX4_forges_1 : decode cX4_forges 1 = .ok (.istore 6, 2) := by decide +kernel
theorem dX4_forges_3 : decode cX4_forges 3 = .ok (.iload 6, 2) := by decide +kernel
theorem dX4_forges_5 : decode cX4_forges 5 = .ok (.bipush 9, 2) := by decide +kernel
theorem dX4_forges_7 : decode cX4_forges 7 = .ok (.if_icmp .ge 23, 3) := by decide +kernel
theorem dX4_forges_10 : decode cX4_forges 10 = .ok (.aload_n 0, 1) := by decide +kernel
theorem dX4_forges_11 : decode cX4_forges 11 = .ok (.getfield 43, 3) := by decide +kernel
theorem dX4_forges_14 : decode cX4_forges 14 = .ok (.iload 6, 2) := by decide +kernel
theorem dX4_forges_16 : decode cX4_forges 16 = .ok (.aload_n 0, 1) := by decide +kernel
theorem dX4_forges_17 : decode cX4_forges 17 = .ok (.iload_n 1, 1) := by decide +kernel
theorem dX4_forges_18 : decode cX4_forges 18 = .ok (.iload 6, 2) := by decide +kernel
theorem dX4_forges_20 : decode cX4_forges 20 = .ok (.invokevirtual 135, 3) := by decide +kernel
theorem dX4_forges_23 : decode cX4_forges 23 = .ok (.iastore, 1) := by decide +kernel
theorem dX4_forges_24 : decode cX4_forges 24 = .ok (.iinc 6 1, 3) := by decide +kernel
theorem dX4_forges_27 : decode cX4_forges 27 = .ok (.goto (-24), 3) := by decide +kernel
theorem dX4_forges_30 : decode cX4_forges 30 = .ok (.iconst 0, 1) := by decide +kernel
theorem dX4_forges_31 : decode cX4_forges 31 = .ok (.istore 6, 2) := by decide +kernel
theorem dX4_forges_33 : decode cX4_forges 33 = .ok (.iload 6, 2) := by decide +kernel
theorem dX4_forges_35 : decode cX4_forges 35 = .ok (.iload 4, 2) := by decide +kernel
theorem dX4_forges_37 : decode cX4_forges 37 = .ok (.if_icmp .ge 56, 3) := by decide +kernel
theorem dX4_forges_40 : decode cX4_forges 40 = .ok (.aload_n 0, 1) := by decide +kernel
theorem dX4_forges_41 : decode cX4_forges 41 = .ok (.getfield 43, 3) := by decide +kernel
theorem dX4_forges_44 : decode cX4_forges 44 = .ok (.aload_n 0, 1) := by decide +kernel
theorem dX4_forges_45 : decode cX4_forges 45 = .ok (.getfield 55, 3) := by decide +kernel
theorem dX4_forges_48 : decode cX4_forges 48 = .ok (.iload_n 3, 1) := by decide +kernel
theorem dX4_forges_49 : decode cX4_forges 49 = .ok (.iconst 2, 1) := by decide +kernel
theorem dX4_forges_50 : decode cX4_forges 50 = .ok (.iload 6, 2) := by decide +kernel
theorem dX4_forges_52 : decode cX4_forges 52 = .ok (.imul, 1) := by decide +kernel
theorem dX4_forges_53 : decode cX4_forges 53 = .ok (.iadd, 1) := by decide +kernel
theorem dX4_forges_54 : decode cX4_forges 54 = .ok (.iaload, 1) := by decide +kernel
theorem dX4_forges_55 : decode cX4_forges 55 = .ok (.dup2, 1) := by decide +kernel
theorem dX4_forges_56 : decode cX4_forges 56 = .ok (.iaload, 1) := by decide +kernel
theorem dX4_forges_57 : decode cX4_forges 57 = .ok (.iload 5, 2) := by decide +kernel
theorem dX4_forges_59 : decode cX4_forges 59 = .ok (.iload 6, 2) := by decide +kernel
theorem dX4_forges_61 : decode cX4_forges 61 = .ok (.ishr, 1) := by decide +kernel
theorem dX4_forges_62 : decode cX4_forges 62 = .ok (.iconst 1, 1) := by decide +kernel
theorem dX4_forges_63 : decode cX4_forges 63 = .ok (.iand, 1) := by decide +kernel
theorem dX4_forges_64 : decode cX4_forges 64 = .ok (.iconst 1, 1) := by decide +kernel
theorem dX4_forges_65 : decode cX4_forges 65 = .ok (.if_icmp .ne 19, 3) := by decide +kernel
theorem dX4_forges_68 : decode cX4_forges 68 = .ok (.aload_n 0, 1) := by decide +kernel
theorem dX4_forges_69 : decode cX4_forges 69 = .ok (.getfield 55, 3) := by decide +kernel
theorem dX4_forges_72 : decode cX4_forges 72 = .ok (.iload_n 3, 1) := by decide +kernel
theorem dX4_forges_73 : decode cX4_forges 73 = .ok (.iconst 2, 1) := by decide +kernel
theorem dX4_forges_74 : decode cX4_forges 74 = .ok (.iload 6, 2) := by decide +kernel
theorem dX4_forges_76 : decode cX4_forges 76 = .ok (.imul, 1) := by decide +kernel
theorem dX4_forges_77 : decode cX4_forges 77 = .ok (.iadd, 1) := by decide +kernel
theorem dX4_forges_78 : decode cX4_forges 78 = .ok (.iconst 1, 1) := by decide +kernel
theorem dX4_forges_79 : decode cX4_forges 79 = .ok (.iadd, 1) := by decide +kernel
theorem dX4_forges_80 : decode cX4_forges 80 = .ok (.iaload, 1) := by decide +kernel
theorem dX4_forges_81 : decode cX4_forges 81 = .ok (.goto 4, 3) := by decide +kernel
theorem dX4_forges_84 : decode cX4_forges 84 = .ok (.iconst 0, 1) := by decide +kernel
theorem dX4_forges_85 : decode cX4_forges 85 = .ok (.iadd, 1) := by decide +kernel
theorem dX4_forges_86 : decode cX4_forges 86 = .ok (.iastore, 1) := by decide +kernel
theorem dX4_forges_87 : decode cX4_forges 87 = .ok (.iinc 6 1, 3) := by decide +kernel
theorem dX4_forges_90 : decode cX4_forges 90 = .ok (.goto (-57), 3) := by decide +kernel
theorem dX4_forges_93 : decode cX4_forges 93 = .ok (.aload_n 0, 1) := by decide +kernel
theorem dX4_forges_94 : decode cX4_forges 94 = .ok (.iload_n 2, 1) := by decide +kernel
theorem dX4_forges_95 : decode cX4_forges 95 = .ok (.invokevirtual 171, 3) := by decide +kernel
theorem dX4_forges_98 : decode cX4_forges 98 = .ok (.ireturn, 1) := by decide +kernel
set_option maxRecDepth 20000 in
theorem ggX4_forged_X4_areTwo : GoodIn wsX4_forged wsX4_areTwo := goodIn_r _ [8, 9, 10, 11, 7, 12, 13, 14, 15, 16, 64, 65, 66, 67, 68, 69, 70, 71, 72, 73, 74, 75, 76, 77, 78, 79, 80, 81, 82, 83, 84, 85, 86, 87, 88] (by decide +kernel) (by decide +kernel)
set_option maxRecDepth 20000 in
theorem gX4_forged_X4_areTwo : GoodIn wsX4_forged (wsV RX4 146 RX4 yX4_areTwo wsX4_areTwo) := goodIn_app (goodIn_of _ (by decide +kernel)) ggX4_forged_X4_areTwo
set_option maxRecDepth 20000 in
theorem ggX4_forged_X4_refused : GoodIn wsX4_forged wsX4_refused := goodIn_r _ [20, 21, 64, 65, 66, 67, 68, 69, 70, 71, 72, 73, 74, 75, 76, 77, 78, 79, 80, 81, 82, 83, 84, 85, 86, 87, 88] (by decide +kernel) (by decide +kernel)
set_option maxRecDepth 20000 in
theorem gX4_forged_X4_refused : GoodIn wsX4_forged (wsV RX4 75 RX4 yX4_refused wsX4_refused) := goodIn_app (goodIn_of _ (by decide +kernel)) ggX4_forged_X4_refused
set_option maxRecDepth 20000 in
theorem ggX4_forged_X4_barred : GoodIn wsX4_forged wsX4_barred := goodIn_r _ [25, 1, 26, 27, 28, 29, 7, 30, 31, 14, 15, 16, 17, 18, 19, 20, 21, 32, 33, 34, 35, 36, 37, 38, 64, 65, 66, 67, 68, 69, 70, 71, 72, 73, 74, 75, 76, 77, 78, 79, 80, 81, 82, 83, 84, 85, 86, 87, 88] (by decide +kernel) (by decide +kernel)
set_option maxRecDepth 20000 in
theorem gX4_forged_X4_barred : GoodIn wsX4_forged (wsV RX4 113 RX4 yX4_barred wsX4_barred) := goodIn_app (goodIn_of _ (by decide +kernel)) ggX4_forged_X4_barred
set_option maxRecDepth 20000 in
theorem ggX4_forged_X4_noSmell : GoodIn wsX4_forged wsX4_noSmell := goodIn_r _ [41, 42, 14, 15, 7, 16] (by decide +kernel) (by decide +kernel)
set_option maxRecDepth 20000 in
theorem gX4_forged_X4_noSmell : GoodIn wsX4_forged (va_wsS RX4 132 yX4_noSmell wsX4_noSmell) := goodIn_app (goodIn_of _ (by decide +kernel)) ggX4_forged_X4_noSmell
set_option maxRecDepth 20000 in
theorem ggX4_forged_X4_in : GoodIn wsX4_forged wsX4_in := goodIn_r _ [16] (by decide +kernel) (by decide +kernel)
set_option maxRecDepth 20000 in
theorem gX4_forged_X4_in : GoodIn wsX4_forged (va_wsS RX4 81 yX4_in wsX4_in) := goodIn_app (goodIn_of _ (by decide +kernel)) ggX4_forged_X4_in
set_option maxRecDepth 20000 in
theorem ggX4_forged_X4_bits : GoodIn wsX4_forged wsX4_bits := goodIn_r _ [45] (by decide +kernel) (by decide +kernel)
set_option maxRecDepth 20000 in
theorem gX4_forged_X4_bits : GoodIn wsX4_forged (va_wsS RX4 174 yX4_bits wsX4_bits) := goodIn_app (goodIn_of _ (by decide +kernel)) ggX4_forged_X4_bits
set_option maxRecDepth 20000 in
theorem ggX4_forged_X4_forges : GoodIn wsX4_forged wsX4_forges := goodIn_r _ [49, 50, 2, 51, 52, 53, 7, 54, 55, 56, 57, 58, 59, 60, 61, 62, 63, 64, 65, 66, 67, 68, 69, 70, 71, 72, 73, 74, 75, 76, 77, 78, 79, 80, 81, 82, 83, 84, 85, 86, 87, 88] (by decide +kernel) (by decide +kernel)
set_option maxRecDepth 20000 in
theorem gX4_forged_X4_forges : GoodIn wsX4_forged (wsV RX4 177 RX4 yX4_forges wsX4_forges) := goodIn_app (goodIn_of _ (by decide +kernel)) ggX4_forged_X4_forges
theorem dX4_forged_0 : decode cX4_forged 0 = .ok (.aload_n 0, 1) := by decide +kernel
theorem dX4_forged_1 : decode cX4_forged 1 = .ok (.iload_n 1, 1) := by decide +kernel
theorem dX4_forged_2 : decode cX4_forged 2 = .ok (.iload_n 2, 1) := by decide +kernel
theorem dX4_forged_3 : decode cX4_forged 3 = .ok (.invokevirtual 146, 3) := by decide +kernel
theorem dX4_forged_6 : decode cX4_forged 6 = .ok (.ifCond .ne 9, 3) := by decide +kernel
theorem dX4_forged_9 : decode cX4_forged 9 = .ok (.aload_n 0, 1) := by decide +kernel
theorem dX4_forged_10 : decode cX4_forged 10 = .ok (.iconst (-1), 1) := by decide +kernel
theorem dX4_forged_11 : decode cX4_forged 11 = .ok (.invokevirtual 75, 3) := by decide +kernel
theorem dX4_forged_14 : decode cX4_forged 14 = .ok (.ireturn, 1) := by decide +kernel
theorem dX4_forged_15 : decode cX4_forged 15 = .ok (.aload_n 0, 1) := by decide +kernel
theorem dX4_forged_16 : decode cX4_forged 16 = .ok (.iload_n 3, 1) := by decide +kernel
theorem dX4_forged_17 : decode cX4_forged 17 = .ok (.iload 4, 2) := by decide +kernel
theorem dX4_forged_19 : decode cX4_forged 19 = .ok (.iload 5, 2) := by decide +kernel
theorem dX4_forged_21 : decode cX4_forged 21 = .ok (.ldc2_w 79, 3) := by decide +kernel
theorem dX4_forged_24 : decode cX4_forged 24 = .ok (.iload 6, 2) := by decide +kernel
theorem dX4_forged_26 : decode cX4_forged 26 = .ok (.i2l, 1) := by decide +kernel
theorem dX4_forged_27 : decode cX4_forged 27 = .ok (.lmul, 1) := by decide +kernel
theorem dX4_forged_28 : decode cX4_forged 28 = .ok (.invokevirtual 113, 3) := by decide +kernel
theorem dX4_forged_31 : decode cX4_forged 31 = .ok (.istore 7, 2) := by decide +kernel
theorem dX4_forged_33 : decode cX4_forged 33 = .ok (.iload 7, 2) := by decide +kernel
theorem dX4_forged_35 : decode cX4_forged 35 = .ok (.ifCond .ge 6, 3) := by decide +kernel
theorem dX4_forged_38 : decode cX4_forged 38 = .ok (.iload 7, 2) := by decide +kernel
theorem dX4_forged_40 : decode cX4_forged 40 = .ok (.ireturn, 1) := by decide +kernel
theorem dX4_forged_41 : decode cX4_forged 41 = .ok (.bipush 90, 2) := by decide +kernel
theorem dX4_forged_43 : decode cX4_forged 43 = .ok (.iload_n 3, 1) := by decide +kernel
theorem dX4_forged_44 : decode cX4_forged 44 = .ok (.imul, 1) := by decide +kernel
theorem dX4_forged_45 : decode cX4_forged 45 = .ok (.iload 5, 2) := by decide +kernel
theorem dX4_forged_47 : decode cX4_forged 47 = .ok (.iadd, 1) := by decide +kernel
theorem dX4_forged_48 : decode cX4_forged 48 = .ok (.istore 8, 2) := by decide +kernel
theorem dX4_forged_50 : decode cX4_forged 50 = .ok (.iload 6, 2) := by decide +kernel
theorem dX4_forged_52 : decode cX4_forged 52 = .ok (.bipush 10, 2) := by decide +kernel
theorem dX4_forged_54 : decode cX4_forged 54 = .ok (.if_icmp .le 10, 3) := by decide +kernel
theorem dX4_forged_57 : decode cX4_forged 57 = .ok (.aload_n 0, 1) := by decide +kernel
theorem dX4_forged_58 : decode cX4_forged 58 = .ok (.bipush (-2), 2) := by decide +kernel
theorem dX4_forged_60 : decode cX4_forged 60 = .ok (.invokevirtual 75, 3) := by decide +kernel
theorem dX4_forged_63 : decode cX4_forged 63 = .ok (.ireturn, 1) := by decide +kernel
theorem dX4_forged_64 : decode cX4_forged 64 = .ok (.iconst 0, 1) := by decide +kernel
theorem dX4_forged_65 : decode cX4_forged 65 = .ok (.istore 9, 2) := by decide +kernel
theorem dX4_forged_67 : decode cX4_forged 67 = .ok (.iload 9, 2) := by decide +kernel
theorem dX4_forged_69 : decode cX4_forged 69 = .ok (.iload 6, 2) := by decide +kernel
theorem dX4_forged_71 : decode cX4_forged 71 = .ok (.if_icmp .ge 59, 3) := by decide +kernel
theorem dX4_forged_74 : decode cX4_forged 74 = .ok (.aload_n 0, 1) := by decide +kernel
theorem dX4_forged_75 : decode cX4_forged 75 = .ok (.getfield 55, 3) := by decide +kernel
theorem dX4_forged_78 : decode cX4_forged 78 = .ok (.iload 8, 2) := by decide +kernel
theorem dX4_forged_80 : decode cX4_forged 80 = .ok (.iconst 2, 1) := by decide +kernel
theorem dX4_forged_81 : decode cX4_forged 81 = .ok (.iload 9, 2) := by decide +kernel
theorem dX4_forged_83 : decode cX4_forged 83 = .ok (.imul, 1) := by decide +kernel
theorem dX4_forged_84 : decode cX4_forged 84 = .ok (.iadd, 1) := by decide +kernel
theorem dX4_forged_85 : decode cX4_forged 85 = .ok (.iaload, 1) := by decide +kernel
theorem dX4_forged_86 : decode cX4_forged 86 = .ok (.invokestatic 132, 3) := by decide +kernel
theorem dX4_forged_89 : decode cX4_forged 89 = .ok (.ifCond .ne 28, 3) := by decide +kernel
theorem dX4_forged_92 : decode cX4_forged 92 = .ok (.aload_n 0, 1) := by decide +kernel
theorem dX4_forged_93 : decode cX4_forged 93 = .ok (.getfield 55, 3) := by decide +kernel
theorem dX4_forged_96 : decode cX4_forged 96 = .ok (.iload 8, 2) := by decide +kernel
theorem dX4_forged_98 : decode cX4_forged 98 = .ok (.iconst 2, 1) := by decide +kernel
theorem dX4_forged_99 : decode cX4_forged 99 = .ok (.iload 9, 2) := by decide +kernel
theorem dX4_forged_101 : decode cX4_forged 101 = .ok (.imul, 1) := by decide +kernel
theorem dX4_forged_102 : decode cX4_forged 102 = .ok (.iadd, 1) := by decide +kernel
theorem dX4_forged_103 : decode cX4_forged 103 = .ok (.iconst 1, 1) := by decide +kernel
theorem dX4_forged_104 : decode cX4_forged 104 = .ok (.iadd, 1) := by decide +kernel
theorem dX4_forged_105 : decode cX4_forged 105 = .ok (.iaload, 1) := by decide +kernel
theorem dX4_forged_106 : decode cX4_forged 106 = .ok (.i2l, 1) := by decide +kernel
theorem dX4_forged_107 : decode cX4_forged 107 = .ok (.lconst 1, 1) := by decide +kernel
theorem dX4_forged_108 : decode cX4_forged 108 = .ok (.ldc2_w 107, 3) := by decide +kernel
theorem dX4_forged_111 : decode cX4_forged 111 = .ok (.invokestatic 81, 3) := by decide +kernel
theorem dX4_forged_114 : decode cX4_forged 114 = .ok (.ifCond .ne 10, 3) := by decide +kernel
theorem dX4_forged_117 : decode cX4_forged 117 = .ok (.aload_n 0, 1) := by decide +kernel
theorem dX4_forged_118 : decode cX4_forged 118 = .ok (.bipush (-2), 2) := by decide +kernel
theorem dX4_forged_120 : decode cX4_forged 120 = .ok (.invokevirtual 75, 3) := by decide +kernel
theorem dX4_forged_123 : decode cX4_forged 123 = .ok (.ireturn, 1) := by decide +kernel
theorem dX4_forged_124 : decode cX4_forged 124 = .ok (.iinc 9 1, 3) := by decide +kernel
theorem dX4_forged_127 : decode cX4_forged 127 = .ok (.goto (-60), 3) := by decide +kernel
theorem dX4_forged_130 : decode cX4_forged 130 = .ok (.bipush (-9), 2) := by decide +kernel
theorem dX4_forged_132 : decode cX4_forged 132 = .ok (.istore 9, 2) := by decide +kernel
theorem dX4_forged_134 : decode cX4_forged 134 = .ok (.iconst 0, 1) := by decide +kernel
theorem dX4_forged_135 : decode cX4_forged 135 = .ok (.istore 10, 2) := by decide +kernel
theorem dX4_forged_137 : decode cX4_forged 137 = .ok (.iload 10, 2) := by decide +kernel
theorem dX4_forged_139 : decode cX4_forged 139 = .ok (.iconst 1, 1) := by decide +kernel
theorem dX4_forged_140 : decode cX4_forged 140 = .ok (.iload 6, 2) := by decide +kernel
theorem dX4_forged_142 : decode cX4_forged 142 = .ok (.ishl, 1) := by decide +kernel
theorem dX4_forged_143 : decode cX4_forged 143 = .ok (.if_icmp .ge 46, 3) := by decide +kernel
theorem dX4_forged_146 : decode cX4_forged 146 = .ok (.iload 9, 2) := by decide +kernel
theorem dX4_forged_148 : decode cX4_forged 148 = .ok (.ifCond .lt 16, 3) := by decide +kernel
theorem dX4_forged_151 : decode cX4_forged 151 = .ok (.iload 10, 2) := by decide +kernel
theorem dX4_forged_153 : decode cX4_forged 153 = .ok (.invokestatic 174, 3) := by decide +kernel
theorem dX4_forged_156 : decode cX4_forged 156 = .ok (.iload 9, 2) := by decide +kernel
theorem dX4_forged_158 : decode cX4_forged 158 = .ok (.invokestatic 174, 3) := by decide +kernel
theorem dX4_forged_161 : decode cX4_forged 161 = .ok (.if_icmp .ge 22, 3) := by decide +kernel
theorem dX4_forged_164 : decode cX4_forged 164 = .ok (.aload_n 0, 1) := by decide +kernel
theorem dX4_forged_165 : decode cX4_forged 165 = .ok (.iload_n 1, 1) := by decide +kernel
theorem dX4_forged_166 : decode cX4_forged 166 = .ok (.iload_n 2, 1) := by decide +kernel
theorem dX4_forged_167 : decode cX4_forged 167 = .ok (.iload 8, 2) := by decide +kernel
theorem dX4_forged_169 : decode cX4_forged 169 = .ok (.iload 6, 2) := by decide +kernel
theorem dX4_forged_171 : decode cX4_forged 171 = .ok (.iload 10, 2) := by decide +kernel
theorem dX4_forged_173 : decode cX4_forged 173 = .ok (.invokevirtual 177, 3) := by decide +kernel
theorem dX4_forged_176 : decode cX4_forged 176 = .ok (.ifCond .eq 7, 3) := by decide +kernel
theorem dX4_forged_179 : decode cX4_forged 179 = .ok (.iload 10, 2) := by decide +kernel
theorem dX4_forged_181 : decode cX4_forged 181 = .ok (.istore 9, 2) := by decide +kernel
theorem dX4_forged_183 : decode cX4_forged 183 = .ok (.iinc 10 1, 3) := by decide +kernel
theorem dX4_forged_186 : decode cX4_forged 186 = .ok (.goto (-49), 3) := by decide +kernel
theorem dX4_forged_189 : decode cX4_forged 189 = .ok (.aload_n 0, 1) := by decide +kernel
theorem dX4_forged_190 : decode cX4_forged 190 = .ok (.iload 9, 2) := by decide +kernel
theorem dX4_forged_192 : decode cX4_forged 192 = .ok (.invokevirtual 75, 3) := by decide +kernel
theorem dX4_forged_195 : decode cX4_forged 195 = .ok (.ireturn, 1) := by decide +kernel
set_option maxRecDepth 20000 in
theorem ggX4_nearBy_X4_strong : GoodIn wsX4_nearBy wsX4_strong := goodIn_r _ [5, 6, 7, 8, 9, 10, 11, 12, 13, 14, 15, 16, 17, 18, 19, 20, 21, 22, 23, 24, 25, 26, 27, 28, 29, 30, 31] (by decide +kernel) (by decide +kernel)
set_option maxRecDepth 20000 in
theorem gX4_nearBy_X4_strong : GoodIn wsX4_nearBy (wsV RX4 135 RX4 yX4_strong wsX4_strong) := goodIn_app (goodIn_of _ (by decide +kernel)) ggX4_nearBy_X4_strong
theorem dX4_nearBy_0 : decode cX4_nearBy 0 = .ok (.aload_n 0, 1) := by decide +kernel
theorem dX4_nearBy_1 : decode cX4_nearBy 1 = .ok (.iload_n 1, 1) := by decide +kernel
theorem dX4_nearBy_2 : decode cX4_nearBy 2 = .ok (.iload 4, 2) := by decide +kernel
theorem dX4_nearBy_4 : decode cX4_nearBy 4 = .ok (.invokevirtual 135, 3) := by decide +kernel
theorem dX4_nearBy_7 : decode cX4_nearBy 7 = .ok (.aload_n 0, 1) := by decide +kernel
theorem dX4_nearBy_8 : decode cX4_nearBy 8 = .ok (.iload_n 2, 1) := by decide +kernel
theorem dX4_nearBy_9 : decode cX4_nearBy 9 = .ok (.iload 4, 2) := by decide +kernel
theorem dX4_nearBy_11 : decode cX4_nearBy 11 = .ok (.invokevirtual 135, 3) := by decide +kernel
theorem dX4_nearBy_14 : decode cX4_nearBy 14 = .ok (.aload_n 0, 1) := by decide +kernel
theorem dX4_nearBy_15 : decode cX4_nearBy 15 = .ok (.iload_n 1, 1) := by decide +kernel
theorem dX4_nearBy_16 : decode cX4_nearBy 16 = .ok (.iload 4, 2) := by decide +kernel
theorem dX4_nearBy_18 : decode cX4_nearBy 18 = .ok (.invokevirtual 135, 3) := by decide +kernel
theorem dX4_nearBy_21 : decode cX4_nearBy 21 = .ok (.isub, 1) := by decide +kernel
theorem dX4_nearBy_22 : decode cX4_nearBy 22 = .ok (.iload_n 3, 1) := by decide +kernel
theorem dX4_nearBy_23 : decode cX4_nearBy 23 = .ok (.imul, 1) := by decide +kernel
theorem dX4_nearBy_24 : decode cX4_nearBy 24 = .ok (.bipush 10, 2) := by decide +kernel
theorem dX4_nearBy_26 : decode cX4_nearBy 26 = .ok (.idiv, 1) := by decide +kernel
theorem dX4_nearBy_27 : decode cX4_nearBy 27 = .ok (.iadd, 1) := by decide +kernel
theorem dX4_nearBy_28 : decode cX4_nearBy 28 = .ok (.ireturn, 1) := by decide +kernel
set_option maxRecDepth 20000 in
theorem ggX4_near_X4_noSign : GoodIn wsX4_near wsX4_noSign := goodIn_r _ [6, 7, 8, 9, 5, 10, 24, 25, 26, 27, 28, 29, 30, 31, 32, 33, 34, 35, 36, 37, 38, 39, 40, 41, 42, 43, 44, 45, 46, 47, 48] (by decide +kernel) (by decide +kernel)
set_option maxRecDepth 20000 in
theorem gX4_near_X4_noSign : GoodIn wsX4_near (wsV RX4 129 RX4 yX4_noSign wsX4_noSign) := goodIn_app (goodIn_of _ (by decide +kernel)) ggX4_near_X4_noSign
set_option maxRecDepth 20000 in
theorem ggX4_near_X4_noSmell : GoodIn wsX4_near wsX4_noSmell := goodIn_r _ [13, 14, 8, 9, 5, 10] (by decide +kernel) (by decide +kernel)
set_option maxRecDepth 20000 in
theorem gX4_near_X4_noSmell : GoodIn wsX4_near (va_wsS RX4 132 yX4_noSmell wsX4_noSmell) := goodIn_app (goodIn_of _ (by decide +kernel)) ggX4_near_X4_noSmell
set_option maxRecDepth 20000 in
theorem ggX4_near_X4_in : GoodIn wsX4_near wsX4_in := goodIn_r _ [10] (by decide +kernel) (by decide +kernel)
set_option maxRecDepth 20000 in
theorem gX4_near_X4_in : GoodIn wsX4_near (va_wsS RX4 81 yX4_in wsX4_in) := goodIn_app (goodIn_of _ (by decide +kernel)) ggX4_near_X4_in
set_option maxRecDepth 20000 in
theorem ggX4_near_X4_nearBy : GoodIn wsX4_near wsX4_nearBy := goodIn_r _ [18, 19, 20, 21, 5, 22, 23, 24, 25, 26, 27, 28, 29, 30, 31, 32, 33, 34, 35, 36, 37, 38, 39, 40, 41, 42, 43, 44, 45, 46, 47, 48] (by decide +kernel) (by decide +kernel)
set_option maxRecDepth 20000 in
theorem gX4_near_X4_nearBy : GoodIn wsX4_near (wsV RX4 183 RX4 yX4_nearBy wsX4_nearBy) := goodIn_app (goodIn_of _ (by decide +kernel)) ggX4_near_X4_nearBy
theorem dX4_near_0 : decode cX4_near 0 = .ok (.aload_n 0, 1) := by decide +kernel
theorem dX4_near_1 : decode cX4_near 1 = .ok (.iload_n 1, 1) := by decide +kernel
theorem dX4_near_2 : decode cX4_near 2 = .ok (.invokevirtual 129, 3) := by decide +kernel
theorem dX4_near_5 : decode cX4_near 5 = .ok (.ifCond .ne 19, 3) := by decide +kernel
theorem dX4_near_8 : decode cX4_near 8 = .ok (.aload_n 0, 1) := by decide +kernel
theorem dX4_near_9 : decode cX4_near 9 = .ok (.iload_n 2, 1) := by decide +kernel
theorem dX4_near_10 : decode cX4_near 10 = .ok (.invokevirtual 129, 3) := by decide +kernel
theorem dX4_near_13 : decode cX4_near 13 = .ok (.ifCond .ne 11, 3) := by decide +kernel
theorem dX4_near_16 : decode cX4_near 16 = .ok (.iload 4, 2) := by decide +kernel
theorem dX4_near_18 : decode cX4_near 18 = .ok (.invokestatic 132, 3) := by decide +kernel
theorem dX4_near_21 : decode cX4_near 21 = .ok (.ifCond .eq 5, 3) := by decide +kernel
theorem dX4_near_24 : decode cX4_near 24 = .ok (.iconst (-1), 1) := by decide +kernel
theorem dX4_near_25 : decode cX4_near 25 = .ok (.ireturn, 1) := by decide +kernel
theorem dX4_near_26 : decode cX4_near 26 = .ok (.iload_n 3, 1) := by decide +kernel
theorem dX4_near_27 : decode cX4_near 27 = .ok (.i2l, 1) := by decide +kernel
theorem dX4_near_28 : decode cX4_near 28 = .ok (.lconst 0, 1) := by decide +kernel
theorem dX4_near_29 : decode cX4_near 29 = .ok (.ldc2_w 181, 3) := by decide +kernel
theorem dX4_near_32 : decode cX4_near 32 = .ok (.invokestatic 81, 3) := by decide +kernel
theorem dX4_near_35 : decode cX4_near 35 = .ok (.ifCond .eq 15, 3) := by decide +kernel
theorem dX4_near_38 : decode cX4_near 38 = .ok (.aload_n 0, 1) := by decide +kernel
theorem dX4_near_39 : decode cX4_near 39 = .ok (.iload_n 1, 1) := by decide +kernel
theorem dX4_near_40 : decode cX4_near 40 = .ok (.iload_n 2, 1) := by decide +kernel
theorem dX4_near_41 : decode cX4_near 41 = .ok (.iload_n 3, 1) := by decide +kernel
theorem dX4_near_42 : decode cX4_near 42 = .ok (.iload 4, 2) := by decide +kernel
theorem dX4_near_44 : decode cX4_near 44 = .ok (.invokevirtual 183, 3) := by decide +kernel
theorem dX4_near_47 : decode cX4_near 47 = .ok (.goto 5, 3) := by decide +kernel
theorem dX4_near_50 : decode cX4_near 50 = .ok (.bipush (-2), 2) := by decide +kernel
theorem dX4_near_52 : decode cX4_near 52 = .ok (.ireturn, 1) := by decide +kernel
set_option maxRecDepth 20000 in
theorem ggX4_steals_X4_areTwo : GoodIn wsX4_steals wsX4_areTwo := goodIn_r _ [6, 7, 8, 9, 5, 10, 11, 12, 13, 14, 32, 33, 34, 35, 36, 37, 38, 39, 40, 41, 42, 43, 44, 45, 46, 47, 48, 49, 50, 51, 52, 53, 54, 55, 56] (by decide +kernel) (by decide +kernel)
set_option maxRecDepth 20000 in
theorem gX4_steals_X4_areTwo : GoodIn wsX4_steals (wsV RX4 146 RX4 yX4_areTwo wsX4_areTwo) := goodIn_app (goodIn_of _ (by decide +kernel)) ggX4_steals_X4_areTwo
set_option maxRecDepth 20000 in
theorem ggX4_steals_X4_nearBy : GoodIn wsX4_steals wsX4_nearBy := goodIn_r _ [18, 19, 20, 21, 5, 22, 23, 32, 33, 34, 35, 36, 37, 38, 39, 40, 41, 42, 43, 44, 45, 46, 47, 48, 49, 50, 51, 52, 53, 54, 55, 56] (by decide +kernel) (by decide +kernel)
set_option maxRecDepth 20000 in
theorem gX4_steals_X4_nearBy : GoodIn wsX4_steals (wsV RX4 183 RX4 yX4_nearBy wsX4_nearBy) := goodIn_app (goodIn_of _ (by decide +kernel)) ggX4_steals_X4_nearBy
set_option maxRecDepth 20000 in
theorem ggX4_steals_X4_isTaken : GoodIn wsX4_steals wsX4_isTaken := goodIn_r _ [27, 1, 28, 19, 20, 21, 5, 22, 23, 29, 30, 31, 32, 33, 34, 35, 36, 37, 38, 39, 40, 41, 42, 43, 44, 45, 46, 47, 48, 49, 50, 51, 52, 53, 54, 55, 56] (by decide +kernel) (by decide +kernel)
set_option maxRecDepth 20000 in
theorem gX4_steals_X4_isTaken : GoodIn wsX4_steals (wsV RX4 171 RX4 yX4_isTaken wsX4_isTaken) := goodIn_app (goodIn_of _ (by decide +kernel)) ggX4_steals_X4_isTaken
theorem dX4_steals_0 : decode cX4_steals 0 = .ok (.aload_n 0, 1) := by decide +kernel
theorem dX4_steals_1 : decode cX4_steals 1 = .ok (.iload_n 1, 1) := by decide +kernel
theorem dX4_steals_2 : decode cX4_steals 2 = .ok (.iload_n 2, 1) := by decide +kernel
theorem dX4_steals_3 : decode cX4_steals 3 = .ok (.invokevirtual 146, 3) := by decide +kernel
theorem dX4_steals_6 : decode cX4_steals 6 = .ok (.ifCond .ne 5, 3) := by decide +kernel
theorem dX4_steals_9 : decode cX4_steals 9 = .ok (.iconst (-1), 1) := by decide +kernel
theorem dX4_steals_10 : decode cX4_steals 10 = .ok (.ireturn, 1) := by decide +kernel
theorem dX4_steals_11 : decode cX4_steals 11 = .ok (.iconst 0, 1) := by decide +kernel
theorem dX4_steals_12 : decode cX4_steals 12 = .ok (.istore_n 3, 1) := by decide +kernel
theorem dX4_steals_13 : decode cX4_steals 13 = .ok (.iload_n 3, 1) := by decide +kernel
theorem dX4_steals_14 : decode cX4_steals 14 = .ok (.bipush 10, 2) := by decide +kernel
theorem dX4_steals_16 : decode cX4_steals 16 = .ok (.if_icmp .gt 51, 3) := by decide +kernel
theorem dX4_steals_19 : decode cX4_steals 19 = .ok (.iconst 0, 1) := by decide +kernel
theorem dX4_steals_20 : decode cX4_steals 20 = .ok (.istore 4, 2) := by decide +kernel
theorem dX4_steals_22 : decode cX4_steals 22 = .ok (.iload 4, 2) := by decide +kernel
theorem dX4_steals_24 : decode cX4_steals 24 = .ok (.bipush 9, 2) := by decide +kernel
theorem dX4_steals_26 : decode cX4_steals 26 = .ok (.if_icmp .ge 25, 3) := by decide +kernel
theorem dX4_steals_29 : decode cX4_steals 29 = .ok (.aload_n 0, 1) := by decide +kernel
theorem dX4_steals_30 : decode cX4_steals 30 = .ok (.getfield 43, 3) := by decide +kernel
theorem dX4_steals_33 : decode cX4_steals 33 = .ok (.iload 4, 2) := by decide +kernel
theorem dX4_steals_35 : decode cX4_steals 35 = .ok (.aload_n 0, 1) := by decide +kernel
theorem dX4_steals_36 : decode cX4_steals 36 = .ok (.iload_n 1, 1) := by decide +kernel
theorem dX4_steals_37 : decode cX4_steals 37 = .ok (.iload_n 2, 1) := by decide +kernel
theorem dX4_steals_38 : decode cX4_steals 38 = .ok (.iload_n 3, 1) := by decide +kernel
theorem dX4_steals_39 : decode cX4_steals 39 = .ok (.iload 4, 2) := by decide +kernel
theorem dX4_steals_41 : decode cX4_steals 41 = .ok (.invokevirtual 183, 3) := by decide +kernel
theorem dX4_steals_44 : decode cX4_steals 44 = .ok (.iastore, 1) := by decide +kernel
theorem dX4_steals_45 : decode cX4_steals 45 = .ok (.iinc 4 1, 3) := by decide +kernel
theorem dX4_steals_48 : decode cX4_steals 48 = .ok (.goto (-26), 3) := by decide +kernel
theorem dX4_steals_51 : decode cX4_steals 51 = .ok (.aload_n 0, 1) := by decide +kernel
theorem dX4_steals_52 : decode cX4_steals 52 = .ok (.iload_n 2, 1) := by decide +kernel
theorem dX4_steals_53 : decode cX4_steals 53 = .ok (.invokevirtual 171, 3) := by decide +kernel
theorem dX4_steals_56 : decode cX4_steals 56 = .ok (.ifCond .eq 5, 3) := by decide +kernel
theorem dX4_steals_59 : decode cX4_steals 59 = .ok (.iload_n 3, 1) := by decide +kernel
theorem dX4_steals_60 : decode cX4_steals 60 = .ok (.ireturn, 1) := by decide +kernel
theorem dX4_steals_61 : decode cX4_steals 61 = .ok (.iinc 3 1, 3) := by decide +kernel
theorem dX4_steals_64 : decode cX4_steals 64 = .ok (.goto (-51), 3) := by decide +kernel
theorem dX4_steals_67 : decode cX4_steals 67 = .ok (.bipush (-9), 2) := by decide +kernel
theorem dX4_steals_69 : decode cX4_steals 69 = .ok (.ireturn, 1) := by decide +kernel
set_option maxRecDepth 20000 in
theorem ggX4_leastFar_X4_strong : GoodIn wsX4_leastFar wsX4_strong := goodIn_r _ [6, 7, 11, 12, 13, 14, 15, 16, 17, 18, 19, 20, 21, 22, 23, 24, 25, 26, 27, 28, 29, 30, 31, 32, 33, 34, 35] (by decide +kernel) (by decide +kernel)
set_option maxRecDepth 20000 in
theorem gX4_leastFar_X4_strong : GoodIn wsX4_leastFar (wsV RX4 135 RX4 yX4_strong wsX4_strong) := goodIn_app (goodIn_of _ (by decide +kernel)) ggX4_leastFar_X4_strong
set_option maxRecDepth 20000 in
theorem ggX4_leastFar_X4_off : GoodIn wsX4_leastFar wsX4_off := goodIn_r _ [10] (by decide +kernel) (by decide +kernel)
set_option maxRecDepth 20000 in
theorem gX4_leastFar_X4_off : GoodIn wsX4_leastFar (va_wsS RX4 159 yX4_off wsX4_off) := goodIn_app (goodIn_of _ (by decide +kernel)) ggX4_leastFar_X4_off
theorem dX4_leastFar_0 : decode cX4_leastFar 0 = .ok (.bipush (-9), 2) := by decide +kernel
theorem dX4_leastFar_2 : decode cX4_leastFar 2 = .ok (.istore 5, 2) := by decide +kernel
theorem dX4_leastFar_4 : decode cX4_leastFar 4 = .ok (.iconst 0, 1) := by decide +kernel
theorem dX4_leastFar_5 : decode cX4_leastFar 5 = .ok (.istore 6, 2) := by decide +kernel
theorem dX4_leastFar_7 : decode cX4_leastFar 7 = .ok (.iload 6, 2) := by decide +kernel
theorem dX4_leastFar_9 : decode cX4_leastFar 9 = .ok (.aload_n 0, 1) := by decide +kernel
theorem dX4_leastFar_10 : decode cX4_leastFar 10 = .ok (.getfield 92, 3) := by decide +kernel
theorem dX4_leastFar_13 : decode cX4_leastFar 13 = .ok (.if_icmp .ge 87, 3) := by decide +kernel
theorem dX4_leastFar_16 : decode cX4_leastFar 16 = .ok (.iconst 0, 1) := by decide +kernel
theorem dX4_leastFar_17 : decode cX4_leastFar 17 = .ok (.istore 7, 2) := by decide +kernel
theorem dX4_leastFar_19 : decode cX4_leastFar 19 = .ok (.iconst 0, 1) := by decide +kernel
theorem dX4_leastFar_20 : decode cX4_leastFar 20 = .ok (.istore 8, 2) := by decide +kernel
theorem dX4_leastFar_22 : decode cX4_leastFar 22 = .ok (.iload 8, 2) := by decide +kernel
theorem dX4_leastFar_24 : decode cX4_leastFar 24 = .ok (.bipush 9, 2) := by decide +kernel
theorem dX4_leastFar_26 : decode cX4_leastFar 26 = .ok (.if_icmp .ge 47, 3) := by decide +kernel
theorem dX4_leastFar_29 : decode cX4_leastFar 29 = .ok (.iload 7, 2) := by decide +kernel
theorem dX4_leastFar_31 : decode cX4_leastFar 31 = .ok (.aload_n 0, 1) := by decide +kernel
theorem dX4_leastFar_32 : decode cX4_leastFar 32 = .ok (.iload 6, 2) := by decide +kernel
theorem dX4_leastFar_34 : decode cX4_leastFar 34 = .ok (.iload 8, 2) := by decide +kernel
theorem dX4_leastFar_36 : decode cX4_leastFar 36 = .ok (.invokevirtual 135, 3) := by decide +kernel
theorem dX4_leastFar_39 : decode cX4_leastFar 39 = .ok (.iload 8, 2) := by decide +kernel
theorem dX4_leastFar_41 : decode cX4_leastFar 41 = .ok (.iload_n 1, 1) := by decide +kernel
theorem dX4_leastFar_42 : decode cX4_leastFar 42 = .ok (.if_icmp .ne 7, 3) := by decide +kernel
theorem dX4_leastFar_45 : decode cX4_leastFar 45 = .ok (.iload_n 3, 1) := by decide +kernel
theorem dX4_leastFar_46 : decode cX4_leastFar 46 = .ok (.goto 15, 3) := by decide +kernel
theorem dX4_leastFar_49 : decode cX4_leastFar 49 = .ok (.iload 8, 2) := by decide +kernel
theorem dX4_leastFar_51 : decode cX4_leastFar 51 = .ok (.iload_n 2, 1) := by decide +kernel
theorem dX4_leastFar_52 : decode cX4_leastFar 52 = .ok (.if_icmp .ne 8, 3) := by decide +kernel
theorem dX4_leastFar_55 : decode cX4_leastFar 55 = .ok (.iload 4, 2) := by decide +kernel
theorem dX4_leastFar_57 : decode cX4_leastFar 57 = .ok (.goto 4, 3) := by decide +kernel
theorem dX4_leastFar_60 : decode cX4_leastFar 60 = .ok (.iconst 0, 1) := by decide +kernel
theorem dX4_leastFar_61 : decode cX4_leastFar 61 = .ok (.invokestatic 159, 3) := by decide +kernel
theorem dX4_leastFar_64 : decode cX4_leastFar 64 = .ok (.iadd, 1) := by decide +kernel
theorem dX4_leastFar_65 : decode cX4_leastFar 65 = .ok (.istore 7, 2) := by decide +kernel
theorem dX4_leastFar_67 : decode cX4_leastFar 67 = .ok (.iinc 8 1, 3) := by decide +kernel
theorem dX4_leastFar_70 : decode cX4_leastFar 70 = .ok (.goto (-48), 3) := by decide +kernel
theorem dX4_leastFar_73 : decode cX4_leastFar 73 = .ok (.iload 5, 2) := by decide +kernel
theorem dX4_leastFar_75 : decode cX4_leastFar 75 = .ok (.ifCond .lt 10, 3) := by decide +kernel
theorem dX4_leastFar_78 : decode cX4_leastFar 78 = .ok (.iload 7, 2) := by decide +kernel
theorem dX4_leastFar_80 : decode cX4_leastFar 80 = .ok (.iload 5, 2) := by decide +kernel
theorem dX4_leastFar_82 : decode cX4_leastFar 82 = .ok (.if_icmp .ge 8, 3) := by decide +kernel
theorem dX4_leastFar_85 : decode cX4_leastFar 85 = .ok (.iload 7, 2) := by decide +kernel
theorem dX4_leastFar_87 : decode cX4_leastFar 87 = .ok (.goto 5, 3) := by decide +kernel
theorem dX4_leastFar_90 : decode cX4_leastFar 90 = .ok (.iload 5, 2) := by decide +kernel
theorem dX4_leastFar_92 : decode cX4_leastFar 92 = .ok (.istore 5, 2) := by decide +kernel
theorem dX4_leastFar_94 : decode cX4_leastFar 94 = .ok (.iinc 6 1, 3) := by decide +kernel
theorem dX4_leastFar_97 : decode cX4_leastFar 97 = .ok (.goto (-90), 3) := by decide +kernel
theorem dX4_leastFar_100 : decode cX4_leastFar 100 = .ok (.iload 5, 2) := by decide +kernel
theorem dX4_leastFar_102 : decode cX4_leastFar 102 = .ok (.ireturn, 1) := by decide +kernel
set_option maxRecDepth 20000 in
theorem ggX4_fresh_X4_in : GoodIn wsX4_fresh wsX4_in := goodIn_r _ [6] (by decide +kernel) (by decide +kernel)
set_option maxRecDepth 20000 in
theorem gX4_fresh_X4_in : GoodIn wsX4_fresh (va_wsS RX4 81 yX4_in wsX4_in) := goodIn_app (goodIn_of _ (by decide +kernel)) ggX4_fresh_X4_in
set_option maxRecDepth 20000 in
theorem ggX4_fresh_X4_leastFar : GoodIn wsX4_fresh wsX4_leastFar := goodIn_r _ [10, 2, 11, 12, 13, 5, 14, 15, 16, 17, 18, 19, 20, 21, 22, 23, 24, 25, 26, 27, 28, 29, 30, 31, 32, 33, 34, 35, 36, 37, 38, 39, 40, 41, 42, 43] (by decide +kernel) (by decide +kernel)
set_option maxRecDepth 20000 in
theorem gX4_fresh_X4_leastFar : GoodIn wsX4_fresh (wsV RX4 188 RX4 yX4_leastFar wsX4_leastFar) := goodIn_app (goodIn_of _ (by decide +kernel)) ggX4_fresh_X4_leastFar
theorem dX4_fresh_0 : decode cX4_fresh 0 = .ok (.iload_n 1, 1) := by decide +kernel
theorem dX4_fresh_1 : decode cX4_fresh 1 = .ok (.i2l, 1) := by decide +kernel
theorem dX4_fresh_2 : decode cX4_fresh 2 = .ok (.lconst 0, 1) := by decide +kernel
theorem dX4_fresh_3 : decode cX4_fresh 3 = .ok (.ldc2_w 186, 3) := by decide +kernel
theorem dX4_fresh_6 : decode cX4_fresh 6 = .ok (.invokestatic 81, 3) := by decide +kernel
theorem dX4_fresh_9 : decode cX4_fresh 9 = .ok (.ifCond .ne 6, 3) := by decide +kernel
theorem dX4_fresh_12 : decode cX4_fresh 12 = .ok (.bipush (-2), 2) := by decide +kernel
theorem dX4_fresh_14 : decode cX4_fresh 14 = .ok (.ireturn, 1) := by decide +kernel
theorem dX4_fresh_15 : decode cX4_fresh 15 = .ok (.aload_n 0, 1) := by decide +kernel
theorem dX4_fresh_16 : decode cX4_fresh 16 = .ok (.getfield 92, 3) := by decide +kernel
theorem dX4_fresh_19 : decode cX4_fresh 19 = .ok (.ifCond .ne 6, 3) := by decide +kernel
theorem dX4_fresh_22 : decode cX4_fresh 22 = .ok (.bipush (-3), 2) := by decide +kernel
theorem dX4_fresh_24 : decode cX4_fresh 24 = .ok (.ireturn, 1) := by decide +kernel
theorem dX4_fresh_25 : decode cX4_fresh 25 = .ok (.bipush (-9), 2) := by decide +kernel
theorem dX4_fresh_27 : decode cX4_fresh 27 = .ok (.istore_n 2, 1) := by decide +kernel
theorem dX4_fresh_28 : decode cX4_fresh 28 = .ok (.iconst 0, 1) := by decide +kernel
theorem dX4_fresh_29 : decode cX4_fresh 29 = .ok (.istore_n 3, 1) := by decide +kernel
theorem dX4_fresh_30 : decode cX4_fresh 30 = .ok (.iconst 0, 1) := by decide +kernel
theorem dX4_fresh_31 : decode cX4_fresh 31 = .ok (.istore 4, 2) := by decide +kernel
theorem dX4_fresh_33 : decode cX4_fresh 33 = .ok (.iload 4, 2) := by decide +kernel
theorem dX4_fresh_35 : decode cX4_fresh 35 = .ok (.bipush 9, 2) := by decide +kernel
theorem dX4_fresh_37 : decode cX4_fresh 37 = .ok (.if_icmp .ge 89, 3) := by decide +kernel
theorem dX4_fresh_40 : decode cX4_fresh 40 = .ok (.iload 4, 2) := by decide +kernel
theorem dX4_fresh_42 : decode cX4_fresh 42 = .ok (.iconst 1, 1) := by decide +kernel
theorem dX4_fresh_43 : decode cX4_fresh 43 = .ok (.iadd, 1) := by decide +kernel
theorem dX4_fresh_44 : decode cX4_fresh 44 = .ok (.istore 5, 2) := by decide +kernel
theorem dX4_fresh_46 : decode cX4_fresh 46 = .ok (.iload 5, 2) := by decide +kernel
theorem dX4_fresh_48 : decode cX4_fresh 48 = .ok (.bipush 9, 2) := by decide +kernel
theorem dX4_fresh_50 : decode cX4_fresh 50 = .ok (.if_icmp .ge 70, 3) := by decide +kernel
theorem dX4_fresh_53 : decode cX4_fresh 53 = .ok (.iconst 0, 1) := by decide +kernel
theorem dX4_fresh_54 : decode cX4_fresh 54 = .ok (.istore 6, 2) := by decide +kernel
theorem dX4_fresh_56 : decode cX4_fresh 56 = .ok (.iload 6, 2) := by decide +kernel
theorem dX4_fresh_58 : decode cX4_fresh 58 = .ok (.bipush 100, 2) := by decide +kernel
theorem dX4_fresh_60 : decode cX4_fresh 60 = .ok (.if_icmp .ge 54, 3) := by decide +kernel
theorem dX4_fresh_63 : decode cX4_fresh 63 = .ok (.aload_n 0, 1) := by decide +kernel
theorem dX4_fresh_64 : decode cX4_fresh 64 = .ok (.iload 4, 2) := by decide +kernel
theorem dX4_fresh_66 : decode cX4_fresh 66 = .ok (.iload 5, 2) := by decide +kernel
theorem dX4_fresh_68 : decode cX4_fresh 68 = .ok (.iload 6, 2) := by decide +kernel
theorem dX4_fresh_70 : decode cX4_fresh 70 = .ok (.bipush 10, 2) := by decide +kernel
theorem dX4_fresh_72 : decode cX4_fresh 72 = .ok (.idiv, 1) := by decide +kernel
theorem dX4_fresh_73 : decode cX4_fresh 73 = .ok (.iload 6, 2) := by decide +kernel
theorem dX4_fresh_75 : decode cX4_fresh 75 = .ok (.bipush 10, 2) := by decide +kernel
theorem dX4_fresh_77 : decode cX4_fresh 77 = .ok (.irem, 1) := by decide +kernel
theorem dX4_fresh_78 : decode cX4_fresh 78 = .ok (.invokevirtual 188, 3) := by decide +kernel
theorem dX4_fresh_81 : decode cX4_fresh 81 = .ok (.istore 7, 2) := by decide +kernel
theorem dX4_fresh_83 : decode cX4_fresh 83 = .ok (.iload 7, 2) := by decide +kernel
theorem dX4_fresh_85 : decode cX4_fresh 85 = .ok (.iload_n 2, 1) := by decide +kernel
theorem dX4_fresh_86 : decode cX4_fresh 86 = .ok (.if_icmp .le 22, 3) := by decide +kernel
theorem dX4_fresh_89 : decode cX4_fresh 89 = .ok (.iload 7, 2) := by decide +kernel
theorem dX4_fresh_91 : decode cX4_fresh 91 = .ok (.istore_n 2, 1) := by decide +kernel
theorem dX4_fresh_92 : decode cX4_fresh 92 = .ok (.sipush 1000, 3) := by decide +kernel
theorem dX4_fresh_95 : decode cX4_fresh 95 = .ok (.iload 4, 2) := by decide +kernel
theorem dX4_fresh_97 : decode cX4_fresh 97 = .ok (.imul, 1) := by decide +kernel
theorem dX4_fresh_98 : decode cX4_fresh 98 = .ok (.bipush 100, 2) := by decide +kernel
theorem dX4_fresh_100 : decode cX4_fresh 100 = .ok (.iload 5, 2) := by decide +kernel
theorem dX4_fresh_102 : decode cX4_fresh 102 = .ok (.imul, 1) := by decide +kernel
theorem dX4_fresh_103 : decode cX4_fresh 103 = .ok (.iadd, 1) := by decide +kernel
theorem dX4_fresh_104 : decode cX4_fresh 104 = .ok (.iload 6, 2) := by decide +kernel
theorem dX4_fresh_106 : decode cX4_fresh 106 = .ok (.iadd, 1) := by decide +kernel
theorem dX4_fresh_107 : decode cX4_fresh 107 = .ok (.istore_n 3, 1) := by decide +kernel
theorem dX4_fresh_108 : decode cX4_fresh 108 = .ok (.iinc 6 1, 3) := by decide +kernel
theorem dX4_fresh_111 : decode cX4_fresh 111 = .ok (.goto (-55), 3) := by decide +kernel
theorem dX4_fresh_114 : decode cX4_fresh 114 = .ok (.iinc 5 1, 3) := by decide +kernel
theorem dX4_fresh_117 : decode cX4_fresh 117 = .ok (.goto (-71), 3) := by decide +kernel
theorem dX4_fresh_120 : decode cX4_fresh 120 = .ok (.iinc 4 1, 3) := by decide +kernel
theorem dX4_fresh_123 : decode cX4_fresh 123 = .ok (.goto (-90), 3) := by decide +kernel
theorem dX4_fresh_126 : decode cX4_fresh 126 = .ok (.iload_n 1, 1) := by decide +kernel
theorem dX4_fresh_127 : decode cX4_fresh 127 = .ok (.ifCond .ne 7, 3) := by decide +kernel
theorem dX4_fresh_130 : decode cX4_fresh 130 = .ok (.iload_n 2, 1) := by decide +kernel
theorem dX4_fresh_131 : decode cX4_fresh 131 = .ok (.goto 50, 3) := by decide +kernel
theorem dX4_fresh_134 : decode cX4_fresh 134 = .ok (.iload_n 1, 1) := by decide +kernel
theorem dX4_fresh_135 : decode cX4_fresh 135 = .ok (.iconst 1, 1) := by decide +kernel
theorem dX4_fresh_136 : decode cX4_fresh 136 = .ok (.if_icmp .ne 11, 3) := by decide +kernel
theorem dX4_fresh_139 : decode cX4_fresh 139 = .ok (.iload_n 3, 1) := by decide +kernel
theorem dX4_fresh_140 : decode cX4_fresh 140 = .ok (.sipush 1000, 3) := by decide +kernel
theorem dX4_fresh_143 : decode cX4_fresh 143 = .ok (.idiv, 1) := by decide +kernel
theorem dX4_fresh_144 : decode cX4_fresh 144 = .ok (.goto 37, 3) := by decide +kernel
theorem dX4_fresh_147 : decode cX4_fresh 147 = .ok (.iload_n 1, 1) := by decide +kernel
theorem dX4_fresh_148 : decode cX4_fresh 148 = .ok (.iconst 2, 1) := by decide +kernel
theorem dX4_fresh_149 : decode cX4_fresh 149 = .ok (.if_icmp .ne 13, 3) := by decide +kernel
theorem dX4_fresh_152 : decode cX4_fresh 152 = .ok (.iload_n 3, 1) := by decide +kernel
theorem dX4_fresh_153 : decode cX4_fresh 153 = .ok (.bipush 100, 2) := by decide +kernel
theorem dX4_fresh_155 : decode cX4_fresh 155 = .ok (.idiv, 1) := by decide +kernel
theorem dX4_fresh_156 : decode cX4_fresh 156 = .ok (.bipush 10, 2) := by decide +kernel
theorem dX4_fresh_158 : decode cX4_fresh 158 = .ok (.irem, 1) := by decide +kernel
theorem dX4_fresh_159 : decode cX4_fresh 159 = .ok (.goto 22, 3) := by decide +kernel
theorem dX4_fresh_162 : decode cX4_fresh 162 = .ok (.iload_n 1, 1) := by decide +kernel
theorem dX4_fresh_163 : decode cX4_fresh 163 = .ok (.iconst 3, 1) := by decide +kernel
theorem dX4_fresh_164 : decode cX4_fresh 164 = .ok (.if_icmp .ne 13, 3) := by decide +kernel
theorem dX4_fresh_167 : decode cX4_fresh 167 = .ok (.iload_n 3, 1) := by decide +kernel
theorem dX4_fresh_168 : decode cX4_fresh 168 = .ok (.bipush 10, 2) := by decide +kernel
theorem dX4_fresh_170 : decode cX4_fresh 170 = .ok (.idiv, 1) := by decide +kernel
theorem dX4_fresh_171 : decode cX4_fresh 171 = .ok (.bipush 10, 2) := by decide +kernel
theorem dX4_fresh_173 : decode cX4_fresh 173 = .ok (.irem, 1) := by decide +kernel
theorem dX4_fresh_174 : decode cX4_fresh 174 = .ok (.goto 7, 3) := by decide +kernel
theorem dX4_fresh_177 : decode cX4_fresh 177 = .ok (.iload_n 3, 1) := by decide +kernel
theorem dX4_fresh_178 : decode cX4_fresh 178 = .ok (.bipush 10, 2) := by decide +kernel
theorem dX4_fresh_180 : decode cX4_fresh 180 = .ok (.irem, 1) := by decide +kernel
theorem dX4_fresh_181 : decode cX4_fresh 181 = .ok (.ireturn, 1) := by decide +kernel
set_option maxRecDepth 20000 in
theorem ggX4_mayBe_X4_strong : GoodIn wsX4_mayBe wsX4_strong := goodIn_r _ [7, 8, 18, 19, 20, 21, 22, 23, 24, 25, 26, 27, 28, 29, 30, 31, 32, 33, 34, 35, 36, 37, 38, 39, 40, 41, 42] (by decide +kernel) (by decide +kernel)
set_option maxRecDepth 20000 in
theorem gX4_mayBe_X4_strong : GoodIn wsX4_mayBe (wsV RX4 135 RX4 yX4_strong wsX4_strong) := goodIn_app (goodIn_of _ (by decide +kernel)) ggX4_mayBe_X4_strong
set_option maxRecDepth 20000 in
theorem ggX4_mayBe_X4_fades : GoodIn wsX4_mayBe wsX4_fades := goodIn_r _ [12, 13, 14, 18, 19, 20, 21, 22, 23, 24, 25, 26, 27, 28, 29, 30, 31, 32, 33, 34, 35, 36, 37, 38, 39, 40, 41, 42] (by decide +kernel) (by decide +kernel)
set_option maxRecDepth 20000 in
theorem gX4_mayBe_X4_fades : GoodIn wsX4_mayBe (wsV RX4 142 RX4 yX4_fades wsX4_fades) := goodIn_app (goodIn_of _ (by decide +kernel)) ggX4_mayBe_X4_fades
set_option maxRecDepth 20000 in
theorem ggX4_mayBe_X4_off : GoodIn wsX4_mayBe wsX4_off := goodIn_r _ [17] (by decide +kernel) (by decide +kernel)
set_option maxRecDepth 20000 in
theorem gX4_mayBe_X4_off : GoodIn wsX4_mayBe (va_wsS RX4 159 yX4_off wsX4_off) := goodIn_app (goodIn_of _ (by decide +kernel)) ggX4_mayBe_X4_off
theorem dX4_mayBe_0 : decode cX4_mayBe 0 = .ok (.iconst 0, 1) := by decide +kernel
theorem dX4_mayBe_1 : decode cX4_mayBe 1 = .ok (.istore 5, 2) := by decide +kernel
theorem dX4_mayBe_3 : decode cX4_mayBe 3 = .ok (.iconst 0, 1) := by decide +kernel
theorem dX4_mayBe_4 : decode cX4_mayBe 4 = .ok (.istore 6, 2) := by decide +kernel
theorem dX4_mayBe_6 : decode cX4_mayBe 6 = .ok (.iload 6, 2) := by decide +kernel
theorem dX4_mayBe_8 : decode cX4_mayBe 8 = .ok (.bipush 9, 2) := by decide +kernel
theorem dX4_mayBe_10 : decode cX4_mayBe 10 = .ok (.if_icmp .ge 49, 3) := by decide +kernel
theorem dX4_mayBe_13 : decode cX4_mayBe 13 = .ok (.iload 5, 2) := by decide +kernel
theorem dX4_mayBe_15 : decode cX4_mayBe 15 = .ok (.aload_n 0, 1) := by decide +kernel
theorem dX4_mayBe_16 : decode cX4_mayBe 16 = .ok (.iload_n 1, 1) := by decide +kernel
theorem dX4_mayBe_17 : decode cX4_mayBe 17 = .ok (.iload 6, 2) := by decide +kernel
theorem dX4_mayBe_19 : decode cX4_mayBe 19 = .ok (.bipush 8, 2) := by decide +kernel
theorem dX4_mayBe_21 : decode cX4_mayBe 21 = .ok (.aload_n 0, 1) := by decide +kernel
theorem dX4_mayBe_22 : decode cX4_mayBe 22 = .ok (.iload_n 1, 1) := by decide +kernel
theorem dX4_mayBe_23 : decode cX4_mayBe 23 = .ok (.iload 6, 2) := by decide +kernel
theorem dX4_mayBe_25 : decode cX4_mayBe 25 = .ok (.invokevirtual 135, 3) := by decide +kernel
theorem dX4_mayBe_28 : decode cX4_mayBe 28 = .ok (.imul, 1) := by decide +kernel
theorem dX4_mayBe_29 : decode cX4_mayBe 29 = .ok (.iload_n 2, 1) := by decide +kernel
theorem dX4_mayBe_30 : decode cX4_mayBe 30 = .ok (.iload_n 2, 1) := by decide +kernel
theorem dX4_mayBe_31 : decode cX4_mayBe 31 = .ok (.iload_n 3, 1) := by decide +kernel
theorem dX4_mayBe_32 : decode cX4_mayBe 32 = .ok (.imul, 1) := by decide +kernel
theorem dX4_mayBe_33 : decode cX4_mayBe 33 = .ok (.iadd, 1) := by decide +kernel
theorem dX4_mayBe_34 : decode cX4_mayBe 34 = .ok (.invokevirtual 142, 3) := by decide +kernel
theorem dX4_mayBe_37 : decode cX4_mayBe 37 = .ok (.aload_n 0, 1) := by decide +kernel
theorem dX4_mayBe_38 : decode cX4_mayBe 38 = .ok (.getfield 55, 3) := by decide +kernel
theorem dX4_mayBe_41 : decode cX4_mayBe 41 = .ok (.iload 4, 2) := by decide +kernel
theorem dX4_mayBe_43 : decode cX4_mayBe 43 = .ok (.iload 6, 2) := by decide +kernel
theorem dX4_mayBe_45 : decode cX4_mayBe 45 = .ok (.iadd, 1) := by decide +kernel
theorem dX4_mayBe_46 : decode cX4_mayBe 46 = .ok (.iaload, 1) := by decide +kernel
theorem dX4_mayBe_47 : decode cX4_mayBe 47 = .ok (.invokestatic 159, 3) := by decide +kernel
theorem dX4_mayBe_50 : decode cX4_mayBe 50 = .ok (.iadd, 1) := by decide +kernel
theorem dX4_mayBe_51 : decode cX4_mayBe 51 = .ok (.istore 5, 2) := by decide +kernel
theorem dX4_mayBe_53 : decode cX4_mayBe 53 = .ok (.iinc 6 1, 3) := by decide +kernel
theorem dX4_mayBe_56 : decode cX4_mayBe 56 = .ok (.goto (-50), 3) := by decide +kernel
theorem dX4_mayBe_59 : decode cX4_mayBe 59 = .ok (.iload 5, 2) := by decide +kernel
theorem dX4_mayBe_61 : decode cX4_mayBe 61 = .ok (.aload_n 0, 1) := by decide +kernel
theorem dX4_mayBe_62 : decode cX4_mayBe 62 = .ok (.getfield 126, 3) := by decide +kernel
theorem dX4_mayBe_65 : decode cX4_mayBe 65 = .ok (.if_icmp .gt 7, 3) := by decide +kernel
theorem dX4_mayBe_68 : decode cX4_mayBe 68 = .ok (.iconst 1, 1) := by decide +kernel
theorem dX4_mayBe_69 : decode cX4_mayBe 69 = .ok (.goto 4, 3) := by decide +kernel
theorem dX4_mayBe_72 : decode cX4_mayBe 72 = .ok (.iconst 0, 1) := by decide +kernel
theorem dX4_mayBe_73 : decode cX4_mayBe 73 = .ok (.ireturn, 1) := by decide +kernel
set_option maxRecDepth 20000 in
theorem ggX4_laysHours_X4_in : GoodIn wsX4_laysHours wsX4_in := goodIn_r _ [9] (by decide +kernel) (by decide +kernel)
set_option maxRecDepth 20000 in
theorem gX4_laysHours_X4_in : GoodIn wsX4_laysHours (va_wsS RX4 81 yX4_in wsX4_in) := goodIn_app (goodIn_of _ (by decide +kernel)) ggX4_laysHours_X4_in
set_option maxRecDepth 20000 in
theorem ggX4_laysHours_X4_mayBe : GoodIn wsX4_laysHours wsX4_mayBe := goodIn_r _ [13, 2, 14, 15, 16, 17, 8, 18, 19, 20, 21, 22, 23, 24, 25, 26, 27, 28, 29, 30, 31, 32, 33, 34, 35, 36, 37, 38, 39, 40, 41, 42, 43, 44, 45, 46, 47, 48, 49, 50, 51, 52, 53] (by decide +kernel) (by decide +kernel)
set_option maxRecDepth 20000 in
theorem gX4_laysHours_X4_mayBe : GoodIn wsX4_laysHours (wsV RX4 193 RX4 yX4_mayBe wsX4_mayBe) := goodIn_app (goodIn_of _ (by decide +kernel)) ggX4_laysHours_X4_mayBe
theorem dX4_laysHours_0 : decode cX4_laysHours 0 = .ok (.iload_n 1, 1) := by decide +kernel
theorem dX4_laysHours_1 : decode cX4_laysHours 1 = .ok (.i2l, 1) := by decide +kernel
theorem dX4_laysHours_2 : decode cX4_laysHours 2 = .ok (.lconst 0, 1) := by decide +kernel
theorem dX4_laysHours_3 : decode cX4_laysHours 3 = .ok (.ldc2_w 191, 3) := by decide +kernel
theorem dX4_laysHours_6 : decode cX4_laysHours 6 = .ok (.invokestatic 81, 3) := by decide +kernel
theorem dX4_laysHours_9 : decode cX4_laysHours 9 = .ok (.istore_n 3, 1) := by decide +kernel
theorem dX4_laysHours_10 : decode cX4_laysHours 10 = .ok (.iconst 0, 1) := by decide +kernel
theorem dX4_laysHours_11 : decode cX4_laysHours 11 = .ok (.istore 4, 2) := by decide +kernel
theorem dX4_laysHours_13 : decode cX4_laysHours 13 = .ok (.iload 4, 2) := by decide +kernel
theorem dX4_laysHours_15 : decode cX4_laysHours 15 = .ok (.bipush 9, 2) := by decide +kernel
theorem dX4_laysHours_17 : decode cX4_laysHours 17 = .ok (.if_icmp .ge 39, 3) := by decide +kernel
theorem dX4_laysHours_20 : decode cX4_laysHours 20 = .ok (.iload_n 3, 1) := by decide +kernel
theorem dX4_laysHours_21 : decode cX4_laysHours 21 = .ok (.ifCond .eq 27, 3) := by decide +kernel
theorem dX4_laysHours_24 : decode cX4_laysHours 24 = .ok (.aload_n 0, 1) := by decide +kernel
theorem dX4_laysHours_25 : decode cX4_laysHours 25 = .ok (.getfield 55, 3) := by decide +kernel
theorem dX4_laysHours_28 : decode cX4_laysHours 28 = .ok (.iload_n 2, 1) := by decide +kernel
theorem dX4_laysHours_29 : decode cX4_laysHours 29 = .ok (.iload 4, 2) := by decide +kernel
theorem dX4_laysHours_31 : decode cX4_laysHours 31 = .ok (.iadd, 1) := by decide +kernel
theorem dX4_laysHours_32 : decode cX4_laysHours 32 = .ok (.iaload, 1) := by decide +kernel
theorem dX4_laysHours_33 : decode cX4_laysHours 33 = .ok (.i2l, 1) := by decide +kernel
theorem dX4_laysHours_34 : decode cX4_laysHours 34 = .ok (.lconst 0, 1) := by decide +kernel
theorem dX4_laysHours_35 : decode cX4_laysHours 35 = .ok (.ldc2_w 140, 3) := by decide +kernel
theorem dX4_laysHours_38 : decode cX4_laysHours 38 = .ok (.invokestatic 81, 3) := by decide +kernel
theorem dX4_laysHours_41 : decode cX4_laysHours 41 = .ok (.ifCond .eq 7, 3) := by decide +kernel
theorem dX4_laysHours_44 : decode cX4_laysHours 44 = .ok (.iconst 1, 1) := by decide +kernel
theorem dX4_laysHours_45 : decode cX4_laysHours 45 = .ok (.goto 4, 3) := by decide +kernel
theorem dX4_laysHours_48 : decode cX4_laysHours 48 = .ok (.iconst 0, 1) := by decide +kernel
theorem dX4_laysHours_49 : decode cX4_laysHours 49 = .ok (.istore_n 3, 1) := by decide +kernel
theorem dX4_laysHours_50 : decode cX4_laysHours 50 = .ok (.iinc 4 1, 3) := by decide +kernel
theorem dX4_laysHours_53 : decode cX4_laysHours 53 = .ok (.goto (-40), 3) := by decide +kernel
theorem dX4_laysHours_56 : decode cX4_laysHours 56 = .ok (.iconst 0, 1) := by decide +kernel
theorem dX4_laysHours_57 : decode cX4_laysHours 57 = .ok (.istore 4, 2) := by decide +kernel
theorem dX4_laysHours_59 : decode cX4_laysHours 59 = .ok (.iload 4, 2) := by decide +kernel
theorem dX4_laysHours_61 : decode cX4_laysHours 61 = .ok (.aload_n 0, 1) := by decide +kernel
theorem dX4_laysHours_62 : decode cX4_laysHours 62 = .ok (.getfield 92, 3) := by decide +kernel
theorem dX4_laysHours_65 : decode cX4_laysHours 65 = .ok (.if_icmp .ge 65, 3) := by decide +kernel
theorem dX4_laysHours_68 : decode cX4_laysHours 68 = .ok (.iload_n 3, 1) := by decide +kernel
theorem dX4_laysHours_69 : decode cX4_laysHours 69 = .ok (.ifCond .eq 61, 3) := by decide +kernel
theorem dX4_laysHours_72 : decode cX4_laysHours 72 = .ok (.aload_n 0, 1) := by decide +kernel
theorem dX4_laysHours_73 : decode cX4_laysHours 73 = .ok (.getfield 46, 3) := by decide +kernel
theorem dX4_laysHours_76 : decode cX4_laysHours 76 = .ok (.iload 4, 2) := by decide +kernel
theorem dX4_laysHours_78 : decode cX4_laysHours 78 = .ok (.iconst 0, 1) := by decide +kernel
theorem dX4_laysHours_79 : decode cX4_laysHours 79 = .ok (.iastore, 1) := by decide +kernel
theorem dX4_laysHours_80 : decode cX4_laysHours 80 = .ok (.iconst 0, 1) := by decide +kernel
theorem dX4_laysHours_81 : decode cX4_laysHours 81 = .ok (.istore 5, 2) := by decide +kernel
theorem dX4_laysHours_83 : decode cX4_laysHours 83 = .ok (.iload 5, 2) := by decide +kernel
theorem dX4_laysHours_85 : decode cX4_laysHours 85 = .ok (.bipush 10, 2) := by decide +kernel
theorem dX4_laysHours_87 : decode cX4_laysHours 87 = .ok (.if_icmp .ge 37, 3) := by decide +kernel
theorem dX4_laysHours_90 : decode cX4_laysHours 90 = .ok (.aload_n 0, 1) := by decide +kernel
theorem dX4_laysHours_91 : decode cX4_laysHours 91 = .ok (.getfield 46, 3) := by decide +kernel
theorem dX4_laysHours_94 : decode cX4_laysHours 94 = .ok (.iload 4, 2) := by decide +kernel
theorem dX4_laysHours_96 : decode cX4_laysHours 96 = .ok (.dup2, 1) := by decide +kernel
theorem dX4_laysHours_97 : decode cX4_laysHours 97 = .ok (.iaload, 1) := by decide +kernel
theorem dX4_laysHours_98 : decode cX4_laysHours 98 = .ok (.aload_n 0, 1) := by decide +kernel
theorem dX4_laysHours_99 : decode cX4_laysHours 99 = .ok (.iload 4, 2) := by decide +kernel
theorem dX4_laysHours_101 : decode cX4_laysHours 101 = .ok (.iload 5, 2) := by decide +kernel
theorem dX4_laysHours_103 : decode cX4_laysHours 103 = .ok (.iload_n 1, 1) := by decide +kernel
theorem dX4_laysHours_104 : decode cX4_laysHours 104 = .ok (.iload_n 2, 1) := by decide +kernel
theorem dX4_laysHours_105 : decode cX4_laysHours 105 = .ok (.invokevirtual 193, 3) := by decide +kernel
theorem dX4_laysHours_108 : decode cX4_laysHours 108 = .ok (.ifCond .eq 7, 3) := by decide +kernel
theorem dX4_laysHours_111 : decode cX4_laysHours 111 = .ok (.iconst 1, 1) := by decide +kernel
theorem dX4_laysHours_112 : decode cX4_laysHours 112 = .ok (.goto 4, 3) := by decide +kernel
theorem dX4_laysHours_115 : decode cX4_laysHours 115 = .ok (.iconst 0, 1) := by decide +kernel
theorem dX4_laysHours_116 : decode cX4_laysHours 116 = .ok (.iadd, 1) := by decide +kernel
theorem dX4_laysHours_117 : decode cX4_laysHours 117 = .ok (.iastore, 1) := by decide +kernel
theorem dX4_laysHours_118 : decode cX4_laysHours 118 = .ok (.iinc 5 1, 3) := by decide +kernel
theorem dX4_laysHours_121 : decode cX4_laysHours 121 = .ok (.goto (-38), 3) := by decide +kernel
theorem dX4_laysHours_124 : decode cX4_laysHours 124 = .ok (.iinc 4 1, 3) := by decide +kernel
theorem dX4_laysHours_127 : decode cX4_laysHours 127 = .ok (.goto (-68), 3) := by decide +kernel
theorem dX4_laysHours_130 : decode cX4_laysHours 130 = .ok (.iload_n 3, 1) := by decide +kernel
theorem dX4_laysHours_131 : decode cX4_laysHours 131 = .ok (.ireturn, 1) := by decide +kernel
set_option maxRecDepth 20000 in
theorem ggX4_odds_X4_noSign : GoodIn wsX4_odds wsX4_noSign := goodIn_r _ [9, 3, 10, 11, 8, 12, 67, 68, 69, 70, 71, 72, 73, 74, 75, 76, 77, 78, 79, 80, 81, 82, 83, 84, 85, 86, 87, 88, 89, 90, 91] (by decide +kernel) (by decide +kernel)
set_option maxRecDepth 20000 in
theorem gX4_odds_X4_noSign : GoodIn wsX4_odds (wsV RX4 129 RX4 yX4_noSign wsX4_noSign) := goodIn_app (goodIn_of _ (by decide +kernel)) ggX4_odds_X4_noSign
set_option maxRecDepth 20000 in
theorem ggX4_odds_X4_refused : GoodIn wsX4_odds wsX4_refused := goodIn_r _ [16, 2, 67, 68, 69, 70, 71, 72, 73, 74, 75, 76, 77, 78, 79, 80, 81, 82, 83, 84, 85, 86, 87, 88, 89, 90, 91] (by decide +kernel) (by decide +kernel)
set_option maxRecDepth 20000 in
theorem gX4_odds_X4_refused : GoodIn wsX4_odds (wsV RX4 75 RX4 yX4_refused wsX4_refused) := goodIn_app (goodIn_of _ (by decide +kernel)) ggX4_odds_X4_refused
set_option maxRecDepth 20000 in
theorem ggX4_odds_X4_lost : GoodIn wsX4_odds wsX4_lost := goodIn_r _ [19, 20] (by decide +kernel) (by decide +kernel)
set_option maxRecDepth 20000 in
theorem gX4_odds_X4_lost : GoodIn wsX4_odds (va_wsS RX4 67 yX4_lost wsX4_lost) := goodIn_app (goodIn_of _ (by decide +kernel)) ggX4_odds_X4_lost
set_option maxRecDepth 20000 in
theorem ggX4_odds_X4_barred : GoodIn wsX4_odds wsX4_barred := goodIn_r _ [24, 25, 26, 27, 28, 29, 8, 30, 31, 10, 11, 12, 13, 14, 15, 16, 2, 32, 33, 34, 35, 36, 37, 38, 67, 68, 69, 70, 71, 72, 73, 74, 75, 76, 77, 78, 79, 80, 81, 82, 83, 84, 85, 86, 87, 88, 89, 90, 91] (by decide +kernel) (by decide +kernel)
set_option maxRecDepth 20000 in
theorem gX4_odds_X4_barred : GoodIn wsX4_odds (wsV RX4 113 RX4 yX4_barred wsX4_barred) := goodIn_app (goodIn_of _ (by decide +kernel)) ggX4_odds_X4_barred
set_option maxRecDepth 20000 in
theorem ggX4_odds_X4_laysHours : GoodIn wsX4_odds wsX4_laysHours := goodIn_r _ [42, 31, 43, 44, 3, 4, 10, 11, 8, 12, 45, 46, 47, 48, 49, 50, 51, 52, 53, 54, 55, 56, 57, 58, 59, 60, 61, 62, 63, 67, 68, 69, 70, 71, 72, 73, 74, 75, 76, 77, 78, 79, 80, 81, 82, 83, 84, 85, 86, 87, 88, 89, 90, 91] (by decide +kernel) (by decide +kernel)
set_option maxRecDepth 20000 in
theorem gX4_odds_X4_laysHours : GoodIn wsX4_odds (wsV RX4 197 RX4 yX4_laysHours wsX4_laysHours) := goodIn_app (goodIn_of _ (by decide +kernel)) ggX4_odds_X4_laysHours
set_option maxRecDepth 20000 in
theorem ggX4_odds_X4_in : GoodIn wsX4_odds wsX4_in := goodIn_r _ [12] (by decide +kernel) (by decide +kernel)
set_option maxRecDepth 20000 in
theorem gX4_odds_X4_in : GoodIn wsX4_odds (va_wsS RX4 81 yX4_in wsX4_in) := goodIn_app (goodIn_of _ (by decide +kernel)) ggX4_odds_X4_in
set_option maxRecDepth 20000 in
theorem ggX4_odds_X4_told : GoodIn wsX4_odds wsX4_told := goodIn_r _ [66] (by decide +kernel) (by decide +kernel)
set_option maxRecDepth 20000 in
theorem gX4_odds_X4_told : GoodIn wsX4_odds (va_wsS RX4 200 yX4_told wsX4_told) := goodIn_app (goodIn_of _ (by decide +kernel)) ggX4_odds_X4_told
theorem dX4_odds_0 : decode cX4_odds 0 = .ok (.aload_n 0, 1) := by decide +kernel
theorem dX4_odds_1 : decode cX4_odds 1 = .ok (.iload_n 1, 1) := by decide +kernel
theorem dX4_odds_2 : decode cX4_odds 2 = .ok (.invokevirtual 129, 3) := by decide +kernel
theorem dX4_odds_5 : decode cX4_odds 5 = .ok (.ifCond .eq 13, 3) := by decide +kernel
theorem dX4_odds_8 : decode cX4_odds 8 = .ok (.aload_n 0, 1) := by decide +kernel
theorem dX4_odds_9 : decode cX4_odds 9 = .ok (.iconst (-1), 1) := by decide +kernel
theorem dX4_odds_10 : decode cX4_odds 10 = .ok (.invokevirtual 75, 3) := by decide +kernel
theorem dX4_odds_13 : decode cX4_odds 13 = .ok (.pop, 1) := by decide +kernel
theorem dX4_odds_14 : decode cX4_odds 14 = .ok (.invokestatic 67, 3) := by decide +kernel
theorem dX4_odds_17 : decode cX4_odds 17 = .ok (.lreturn, 1) := by decide +kernel
theorem dX4_odds_18 : decode cX4_odds 18 = .ok (.aload_n 0, 1) := by decide +kernel
theorem dX4_odds_19 : decode cX4_odds 19 = .ok (.iload_n 3, 1) := by decide +kernel
theorem dX4_odds_20 : decode cX4_odds 20 = .ok (.iload 4, 2) := by decide +kernel
theorem dX4_odds_22 : decode cX4_odds 22 = .ok (.iload 5, 2) := by decide +kernel
theorem dX4_odds_24 : decode cX4_odds 24 = .ok (.ldc2_w 107, 3) := by decide +kernel
theorem dX4_odds_27 : decode cX4_odds 27 = .ok (.invokevirtual 113, 3) := by decide +kernel
theorem dX4_odds_30 : decode cX4_odds 30 = .ok (.istore 7, 2) := by decide +kernel
theorem dX4_odds_32 : decode cX4_odds 32 = .ok (.iload 7, 2) := by decide +kernel
theorem dX4_odds_34 : decode cX4_odds 34 = .ok (.ifCond .ge 7, 3) := by decide +kernel
theorem dX4_odds_37 : decode cX4_odds 37 = .ok (.invokestatic 67, 3) := by decide +kernel
theorem dX4_odds_40 : decode cX4_odds 40 = .ok (.lreturn, 1) := by decide +kernel
theorem dX4_odds_41 : decode cX4_odds 41 = .ok (.aload_n 0, 1) := by decide +kernel
theorem dX4_odds_42 : decode cX4_odds 42 = .ok (.iconst 0, 1) := by decide +kernel
theorem dX4_odds_43 : decode cX4_odds 43 = .ok (.putfield 63, 3) := by decide +kernel
theorem dX4_odds_46 : decode cX4_odds 46 = .ok (.aload_n 0, 1) := by decide +kernel
theorem dX4_odds_47 : decode cX4_odds 47 = .ok (.iload_n 2, 1) := by decide +kernel
theorem dX4_odds_48 : decode cX4_odds 48 = .ok (.bipush 90, 2) := by decide +kernel
theorem dX4_odds_50 : decode cX4_odds 50 = .ok (.iload_n 3, 1) := by decide +kernel
theorem dX4_odds_51 : decode cX4_odds 51 = .ok (.imul, 1) := by decide +kernel
theorem dX4_odds_52 : decode cX4_odds 52 = .ok (.iload 5, 2) := by decide +kernel
theorem dX4_odds_54 : decode cX4_odds 54 = .ok (.iadd, 1) := by decide +kernel
theorem dX4_odds_55 : decode cX4_odds 55 = .ok (.invokevirtual 197, 3) := by decide +kernel
theorem dX4_odds_58 : decode cX4_odds 58 = .ok (.ifCond .eq 14, 3) := by decide +kernel
theorem dX4_odds_61 : decode cX4_odds 61 = .ok (.iload 6, 2) := by decide +kernel
theorem dX4_odds_63 : decode cX4_odds 63 = .ok (.i2l, 1) := by decide +kernel
theorem dX4_odds_64 : decode cX4_odds 64 = .ok (.lconst 0, 1) := by decide +kernel
theorem dX4_odds_65 : decode cX4_odds 65 = .ok (.lconst 1, 1) := by decide +kernel
theorem dX4_odds_66 : decode cX4_odds 66 = .ok (.invokestatic 81, 3) := by decide +kernel
theorem dX4_odds_69 : decode cX4_odds 69 = .ok (.ifCond .ne 7, 3) := by decide +kernel
theorem dX4_odds_72 : decode cX4_odds 72 = .ok (.invokestatic 67, 3) := by decide +kernel
theorem dX4_odds_75 : decode cX4_odds 75 = .ok (.lreturn, 1) := by decide +kernel
theorem dX4_odds_76 : decode cX4_odds 76 = .ok (.iconst 0, 1) := by decide +kernel
theorem dX4_odds_77 : decode cX4_odds 77 = .ok (.istore 8, 2) := by decide +kernel
theorem dX4_odds_79 : decode cX4_odds 79 = .ok (.iconst 0, 1) := by decide +kernel
theorem dX4_odds_80 : decode cX4_odds 80 = .ok (.istore 9, 2) := by decide +kernel
theorem dX4_odds_82 : decode cX4_odds 82 = .ok (.iload 9, 2) := by decide +kernel
theorem dX4_odds_84 : decode cX4_odds 84 = .ok (.aload_n 0, 1) := by decide +kernel
theorem dX4_odds_85 : decode cX4_odds 85 = .ok (.getfield 92, 3) := by decide +kernel
theorem dX4_odds_88 : decode cX4_odds 88 = .ok (.if_icmp .ge 21, 3) := by decide +kernel
theorem dX4_odds_91 : decode cX4_odds 91 = .ok (.iload 8, 2) := by decide +kernel
theorem dX4_odds_93 : decode cX4_odds 93 = .ok (.aload_n 0, 1) := by decide +kernel
theorem dX4_odds_94 : decode cX4_odds 94 = .ok (.getfield 46, 3) := by decide +kernel
theorem dX4_odds_97 : decode cX4_odds 97 = .ok (.iload 9, 2) := by decide +kernel
theorem dX4_odds_99 : decode cX4_odds 99 = .ok (.iaload, 1) := by decide +kernel
theorem dX4_odds_100 : decode cX4_odds 100 = .ok (.iadd, 1) := by decide +kernel
theorem dX4_odds_101 : decode cX4_odds 101 = .ok (.istore 8, 2) := by decide +kernel
theorem dX4_odds_103 : decode cX4_odds 103 = .ok (.iinc 9 1, 3) := by decide +kernel
theorem dX4_odds_106 : decode cX4_odds 106 = .ok (.goto (-24), 3) := by decide +kernel
theorem dX4_odds_109 : decode cX4_odds 109 = .ok (.iload 8, 2) := by decide +kernel
theorem dX4_odds_111 : decode cX4_odds 111 = .ok (.ifCond .ne 9, 3) := by decide +kernel
theorem dX4_odds_114 : decode cX4_odds 114 = .ok (.invokestatic 67, 3) := by decide +kernel
theorem dX4_odds_117 : decode cX4_odds 117 = .ok (.goto 18, 3) := by decide +kernel
theorem dX4_odds_120 : decode cX4_odds 120 = .ok (.aload_n 0, 1) := by decide +kernel
theorem dX4_odds_121 : decode cX4_odds 121 = .ok (.getfield 46, 3) := by decide +kernel
theorem dX4_odds_124 : decode cX4_odds 124 = .ok (.iload_n 1, 1) := by decide +kernel
theorem dX4_odds_125 : decode cX4_odds 125 = .ok (.iaload, 1) := by decide +kernel
theorem dX4_odds_126 : decode cX4_odds 126 = .ok (.i2l, 1) := by decide +kernel
theorem dX4_odds_127 : decode cX4_odds 127 = .ok (.iload 8, 2) := by decide +kernel
theorem dX4_odds_129 : decode cX4_odds 129 = .ok (.i2l, 1) := by decide +kernel
theorem dX4_odds_130 : decode cX4_odds 130 = .ok (.iload 6, 2) := by decide +kernel
theorem dX4_odds_132 : decode cX4_odds 132 = .ok (.invokestatic 200, 3) := by decide +kernel
theorem dX4_odds_135 : decode cX4_odds 135 = .ok (.lreturn, 1) := by decide +kernel
set_option maxRecDepth 20000 in
theorem ggX4_who_X4_barred : GoodIn wsX4_who wsX4_barred := goodIn_r _ [8, 9, 10, 11, 12, 13, 7, 14, 15, 16, 17, 18, 19, 20, 21, 22, 23, 24, 25, 26, 27, 28, 29, 30, 56, 57, 58, 59, 60, 61, 62, 63, 64, 65, 66, 67, 68, 69, 70, 71, 72, 73, 74, 75, 76, 77, 78, 79, 80] (by decide +kernel) (by decide +kernel)
set_option maxRecDepth 20000 in
theorem gX4_who_X4_barred : GoodIn wsX4_who (wsV RX4 113 RX4 yX4_barred wsX4_barred) := goodIn_app (goodIn_of _ (by decide +kernel)) ggX4_who_X4_barred
set_option maxRecDepth 20000 in
theorem ggX4_who_X4_laysHours : GoodIn wsX4_who wsX4_laysHours := goodIn_r _ [34, 15, 35, 36, 2, 3, 16, 17, 7, 18, 37, 38, 39, 40, 41, 42, 43, 44, 45, 46, 47, 48, 49, 50, 51, 52, 53, 54, 55, 56, 57, 58, 59, 60, 61, 62, 63, 64, 65, 66, 67, 68, 69, 70, 71, 72, 73, 74, 75, 76, 77, 78, 79, 80] (by decide +kernel) (by decide +kernel)
set_option maxRecDepth 20000 in
theorem gX4_who_X4_laysHours : GoodIn wsX4_who (wsV RX4 197 RX4 yX4_laysHours wsX4_laysHours) := goodIn_app (goodIn_of _ (by decide +kernel)) ggX4_who_X4_laysHours
set_option maxRecDepth 20000 in
theorem ggX4_who_X4_refused : GoodIn wsX4_who wsX4_refused := goodIn_r _ [22, 23, 56, 57, 58, 59, 60, 61, 62, 63, 64, 65, 66, 67, 68, 69, 70, 71, 72, 73, 74, 75, 76, 77, 78, 79, 80] (by decide +kernel) (by decide +kernel)
set_option maxRecDepth 20000 in
theorem gX4_who_X4_refused : GoodIn wsX4_who (wsV RX4 75 RX4 yX4_refused wsX4_refused) := goodIn_app (goodIn_of _ (by decide +kernel)) ggX4_who_X4_refused
theorem dX4_who_0 : decode cX4_who 0 = .ok (.aload_n 0, 1) := by decide +kernel
theorem dX4_who_1 : decode cX4_who 1 = .ok (.iload_n 2, 1) := by decide +kernel
theorem dX4_who_2 : decode cX4_who 2 = .ok (.iload_n 3, 1) := by decide +kernel
theorem dX4_who_3 : decode cX4_who 3 = .ok (.iload 4, 2) := by decide +kernel
theorem dX4_who_5 : decode cX4_who 5 = .ok (.ldc2_w 107, 3) := by decide +kernel
theorem dX4_who_8 : decode cX4_who 8 = .ok (.invokevirtual 113, 3) := by decide +kernel
theorem dX4_who_11 : decode cX4_who 11 = .ok (.istore 5, 2) := by decide +kernel
theorem dX4_who_13 : decode cX4_who 13 = .ok (.iload 5, 2) := by decide +kernel
theorem dX4_who_15 : decode cX4_who 15 = .ok (.ifCond .ge 6, 3) := by decide +kernel
theorem dX4_who_18 : decode cX4_who 18 = .ok (.iload 5, 2) := by decide +kernel
theorem dX4_who_20 : decode cX4_who 20 = .ok (.ireturn, 1) := by decide +kernel
theorem dX4_who_21 : decode cX4_who 21 = .ok (.aload_n 0, 1) := by decide +kernel
theorem dX4_who_22 : decode cX4_who 22 = .ok (.iload_n 1, 1) := by decide +kernel
theorem dX4_who_23 : decode cX4_who 23 = .ok (.bipush 90, 2) := by decide +kernel
theorem dX4_who_25 : decode cX4_who 25 = .ok (.iload_n 2, 1) := by decide +kernel
theorem dX4_who_26 : decode cX4_who 26 = .ok (.imul, 1) := by decide +kernel
theorem dX4_who_27 : decode cX4_who 27 = .ok (.iload 4, 2) := by decide +kernel
theorem dX4_who_29 : decode cX4_who 29 = .ok (.iadd, 1) := by decide +kernel
theorem dX4_who_30 : decode cX4_who 30 = .ok (.invokevirtual 197, 3) := by decide +kernel
theorem dX4_who_33 : decode cX4_who 33 = .ok (.ifCond .ne 10, 3) := by decide +kernel
theorem dX4_who_36 : decode cX4_who 36 = .ok (.aload_n 0, 1) := by decide +kernel
theorem dX4_who_37 : decode cX4_who 37 = .ok (.bipush (-2), 2) := by decide +kernel
theorem dX4_who_39 : decode cX4_who 39 = .ok (.invokevirtual 75, 3) := by decide +kernel
theorem dX4_who_42 : decode cX4_who 42 = .ok (.ireturn, 1) := by decide +kernel
theorem dX4_who_43 : decode cX4_who 43 = .ok (.bipush (-9), 2) := by decide +kernel
theorem dX4_who_45 : decode cX4_who 45 = .ok (.istore 6, 2) := by decide +kernel
theorem dX4_who_47 : decode cX4_who 47 = .ok (.iconst 0, 1) := by decide +kernel
theorem dX4_who_48 : decode cX4_who 48 = .ok (.istore 7, 2) := by decide +kernel
theorem dX4_who_50 : decode cX4_who 50 = .ok (.iload 7, 2) := by decide +kernel
theorem dX4_who_52 : decode cX4_who 52 = .ok (.aload_n 0, 1) := by decide +kernel
theorem dX4_who_53 : decode cX4_who 53 = .ok (.getfield 92, 3) := by decide +kernel
theorem dX4_who_56 : decode cX4_who 56 = .ok (.if_icmp .ge 44, 3) := by decide +kernel
theorem dX4_who_59 : decode cX4_who 59 = .ok (.aload_n 0, 1) := by decide +kernel
theorem dX4_who_60 : decode cX4_who 60 = .ok (.getfield 46, 3) := by decide +kernel
theorem dX4_who_63 : decode cX4_who 63 = .ok (.iload 7, 2) := by decide +kernel
theorem dX4_who_65 : decode cX4_who 65 = .ok (.iaload, 1) := by decide +kernel
theorem dX4_who_66 : decode cX4_who 66 = .ok (.iload 6, 2) := by decide +kernel
theorem dX4_who_68 : decode cX4_who 68 = .ok (.ifCond .ge 7, 3) := by decide +kernel
theorem dX4_who_71 : decode cX4_who 71 = .ok (.iconst 0, 1) := by decide +kernel
theorem dX4_who_72 : decode cX4_who 72 = .ok (.goto 10, 3) := by decide +kernel
theorem dX4_who_75 : decode cX4_who 75 = .ok (.aload_n 0, 1) := by decide +kernel
theorem dX4_who_76 : decode cX4_who 76 = .ok (.getfield 46, 3) := by decide +kernel
theorem dX4_who_79 : decode cX4_who 79 = .ok (.iload 6, 2) := by decide +kernel
theorem dX4_who_81 : decode cX4_who 81 = .ok (.iaload, 1) := by decide +kernel
theorem dX4_who_82 : decode cX4_who 82 = .ok (.if_icmp .le 8, 3) := by decide +kernel
theorem dX4_who_85 : decode cX4_who 85 = .ok (.iload 7, 2) := by decide +kernel
theorem dX4_who_87 : decode cX4_who 87 = .ok (.goto 5, 3) := by decide +kernel
theorem dX4_who_90 : decode cX4_who 90 = .ok (.iload 6, 2) := by decide +kernel
theorem dX4_who_92 : decode cX4_who 92 = .ok (.istore 6, 2) := by decide +kernel
theorem dX4_who_94 : decode cX4_who 94 = .ok (.iinc 7 1, 3) := by decide +kernel
theorem dX4_who_97 : decode cX4_who 97 = .ok (.goto (-47), 3) := by decide +kernel
theorem dX4_who_100 : decode cX4_who 100 = .ok (.aload_n 0, 1) := by decide +kernel
theorem dX4_who_101 : decode cX4_who 101 = .ok (.iload 6, 2) := by decide +kernel
theorem dX4_who_103 : decode cX4_who 103 = .ok (.invokevirtual 75, 3) := by decide +kernel
theorem dX4_who_106 : decode cX4_who 106 = .ok (.ireturn, 1) := by decide +kernel
set_option maxRecDepth 20000 in
theorem ggX4_noSheet_X4_in : GoodIn wsX4_noSheet wsX4_in := goodIn_r _ [5] (by decide +kernel) (by decide +kernel)
set_option maxRecDepth 20000 in
theorem gX4_noSheet_X4_in : GoodIn wsX4_noSheet (va_wsS RX4 81 yX4_in wsX4_in) := goodIn_app (goodIn_of _ (by decide +kernel)) ggX4_noSheet_X4_in
theorem dX4_noSheet_0 : decode cX4_noSheet 0 = .ok (.iload_n 0, 1) := by decide +kernel
theorem dX4_noSheet_1 : decode cX4_noSheet 1 = .ok (.i2l, 1) := by decide +kernel
theorem dX4_noSheet_2 : decode cX4_noSheet 2 = .ok (.lconst 0, 1) := by decide +kernel
theorem dX4_noSheet_3 : decode cX4_noSheet 3 = .ok (.ldc2_w 191, 3) := by decide +kernel
theorem dX4_noSheet_6 : decode cX4_noSheet 6 = .ok (.invokestatic 81, 3) := by decide +kernel
theorem dX4_noSheet_9 : decode cX4_noSheet 9 = .ok (.ifCond .ne 7, 3) := by decide +kernel
theorem dX4_noSheet_12 : decode cX4_noSheet 12 = .ok (.iconst 1, 1) := by decide +kernel
theorem dX4_noSheet_13 : decode cX4_noSheet 13 = .ok (.goto 4, 3) := by decide +kernel
theorem dX4_noSheet_16 : decode cX4_noSheet 16 = .ok (.iconst 0, 1) := by decide +kernel
theorem dX4_noSheet_17 : decode cX4_noSheet 17 = .ok (.ireturn, 1) := by decide +kernel
set_option maxRecDepth 20000 in
theorem ggX4_sheet_X4_noSheet : GoodIn wsX4_sheet wsX4_noSheet := goodIn_r _ [8, 9, 10, 11, 7, 12] (by decide +kernel) (by decide +kernel)
set_option maxRecDepth 20000 in
theorem gX4_sheet_X4_noSheet : GoodIn wsX4_sheet (va_wsS RX4 71 yX4_noSheet wsX4_noSheet) := goodIn_app (goodIn_of _ (by decide +kernel)) ggX4_sheet_X4_noSheet
set_option maxRecDepth 20000 in
theorem ggX4_sheet_X4_refused : GoodIn wsX4_sheet wsX4_refused := goodIn_r _ [16, 17, 22, 23, 24, 25, 26, 27, 28, 29, 30, 31, 32, 33, 34, 35, 36, 37, 38, 39, 40, 41, 42, 43, 44, 45, 46] (by decide +kernel) (by decide +kernel)
set_option maxRecDepth 20000 in
theorem gX4_sheet_X4_refused : GoodIn wsX4_sheet (wsV RX4 75 RX4 yX4_refused wsX4_refused) := goodIn_app (goodIn_of _ (by decide +kernel)) ggX4_sheet_X4_refused
set_option maxRecDepth 20000 in
theorem ggX4_sheet_X4_in : GoodIn wsX4_sheet wsX4_in := goodIn_r _ [12] (by decide +kernel) (by decide +kernel)
set_option maxRecDepth 20000 in
theorem gX4_sheet_X4_in : GoodIn wsX4_sheet (va_wsS RX4 81 yX4_in wsX4_in) := goodIn_app (goodIn_of _ (by decide +kernel)) ggX4_sheet_X4_in
set_option maxRecDepth 20000 in
theorem ggX4_sheet_X4_failed : GoodIn wsX4_sheet wsX4_failed := goodIn_r _ [21, 17, 22, 23, 24, 25, 26, 27, 28, 29, 30, 31, 32, 33, 34, 35, 36, 37, 38, 39, 40, 41, 42, 43, 44, 45, 46] (by decide +kernel) (by decide +kernel)
set_option maxRecDepth 20000 in
theorem gX4_sheet_X4_failed : GoodIn wsX4_sheet (wsV RX4 85 RX4 yX4_failed wsX4_failed) := goodIn_app (goodIn_of _ (by decide +kernel)) ggX4_sheet_X4_failed
theorem dX4_sheet_0 : decode cX4_sheet 0 = .ok (.iload_n 1, 1) := by decide +kernel
theorem dX4_sheet_1 : decode cX4_sheet 1 = .ok (.invokestatic 71, 3) := by decide +kernel
theorem dX4_sheet_4 : decode cX4_sheet 4 = .ok (.ifCond .eq 9, 3) := by decide +kernel
theorem dX4_sheet_7 : decode cX4_sheet 7 = .ok (.aload_n 0, 1) := by decide +kernel
theorem dX4_sheet_8 : decode cX4_sheet 8 = .ok (.iconst (-1), 1) := by decide +kernel
theorem dX4_sheet_9 : decode cX4_sheet 9 = .ok (.invokevirtual 75, 3) := by decide +kernel
theorem dX4_sheet_12 : decode cX4_sheet 12 = .ok (.ireturn, 1) := by decide +kernel
theorem dX4_sheet_13 : decode cX4_sheet 13 = .ok (.iload_n 2, 1) := by decide +kernel
theorem dX4_sheet_14 : decode cX4_sheet 14 = .ok (.i2l, 1) := by decide +kernel
theorem dX4_sheet_15 : decode cX4_sheet 15 = .ok (.lconst 0, 1) := by decide +kernel
theorem dX4_sheet_16 : decode cX4_sheet 16 = .ok (.ldc2_w 79, 3) := by decide +kernel
theorem dX4_sheet_19 : decode cX4_sheet 19 = .ok (.invokestatic 81, 3) := by decide +kernel
theorem dX4_sheet_22 : decode cX4_sheet 22 = .ok (.ifCond .eq 9, 3) := by decide +kernel
theorem dX4_sheet_25 : decode cX4_sheet 25 = .ok (.iload_n 3, 1) := by decide +kernel
theorem dX4_sheet_26 : decode cX4_sheet 26 = .ok (.bipush 90, 2) := by decide +kernel
theorem dX4_sheet_28 : decode cX4_sheet 28 = .ok (.if_icmp .le 10, 3) := by decide +kernel
theorem dX4_sheet_31 : decode cX4_sheet 31 = .ok (.aload_n 0, 1) := by decide +kernel
theorem dX4_sheet_32 : decode cX4_sheet 32 = .ok (.bipush (-2), 2) := by decide +kernel
theorem dX4_sheet_34 : decode cX4_sheet 34 = .ok (.invokevirtual 75, 3) := by decide +kernel
theorem dX4_sheet_37 : decode cX4_sheet 37 = .ok (.ireturn, 1) := by decide +kernel
theorem dX4_sheet_38 : decode cX4_sheet 38 = .ok (.iload_n 3, 1) := by decide +kernel
theorem dX4_sheet_39 : decode cX4_sheet 39 = .ok (.ifCond .ge 9, 3) := by decide +kernel
theorem dX4_sheet_42 : decode cX4_sheet 42 = .ok (.aload_n 0, 1) := by decide +kernel
theorem dX4_sheet_43 : decode cX4_sheet 43 = .ok (.iconst 4, 1) := by decide +kernel
theorem dX4_sheet_44 : decode cX4_sheet 44 = .ok (.invokevirtual 85, 3) := by decide +kernel
theorem dX4_sheet_47 : decode cX4_sheet 47 = .ok (.ireturn, 1) := by decide +kernel
theorem dX4_sheet_48 : decode cX4_sheet 48 = .ok (.aload_n 0, 1) := by decide +kernel
theorem dX4_sheet_49 : decode cX4_sheet 49 = .ok (.getfield 49, 3) := by decide +kernel
theorem dX4_sheet_52 : decode cX4_sheet 52 = .ok (.iload_n 1, 1) := by decide +kernel
theorem dX4_sheet_53 : decode cX4_sheet 53 = .ok (.iload_n 3, 1) := by decide +kernel
theorem dX4_sheet_54 : decode cX4_sheet 54 = .ok (.iastore, 1) := by decide +kernel
theorem dX4_sheet_55 : decode cX4_sheet 55 = .ok (.aload_n 0, 1) := by decide +kernel
theorem dX4_sheet_56 : decode cX4_sheet 56 = .ok (.getfield 52, 3) := by decide +kernel
theorem dX4_sheet_59 : decode cX4_sheet 59 = .ok (.iload_n 1, 1) := by decide +kernel
theorem dX4_sheet_60 : decode cX4_sheet 60 = .ok (.iload_n 2, 1) := by decide +kernel
theorem dX4_sheet_61 : decode cX4_sheet 61 = .ok (.iastore, 1) := by decide +kernel
theorem dX4_sheet_62 : decode cX4_sheet 62 = .ok (.iconst 0, 1) := by decide +kernel
theorem dX4_sheet_63 : decode cX4_sheet 63 = .ok (.istore 4, 2) := by decide +kernel
theorem dX4_sheet_65 : decode cX4_sheet 65 = .ok (.iload 4, 2) := by decide +kernel
theorem dX4_sheet_67 : decode cX4_sheet 67 = .ok (.iload_n 3, 1) := by decide +kernel
theorem dX4_sheet_68 : decode cX4_sheet 68 = .ok (.if_icmp .ge 22, 3) := by decide +kernel
theorem dX4_sheet_71 : decode cX4_sheet 71 = .ok (.aload_n 0, 1) := by decide +kernel
theorem dX4_sheet_72 : decode cX4_sheet 72 = .ok (.getfield 55, 3) := by decide +kernel
theorem dX4_sheet_75 : decode cX4_sheet 75 = .ok (.bipush 90, 2) := by decide +kernel
theorem dX4_sheet_77 : decode cX4_sheet 77 = .ok (.iload_n 1, 1) := by decide +kernel
theorem dX4_sheet_78 : decode cX4_sheet 78 = .ok (.imul, 1) := by decide +kernel
theorem dX4_sheet_79 : decode cX4_sheet 79 = .ok (.iload 4, 2) := by decide +kernel
theorem dX4_sheet_81 : decode cX4_sheet 81 = .ok (.iadd, 1) := by decide +kernel
theorem dX4_sheet_82 : decode cX4_sheet 82 = .ok (.iconst 0, 1) := by decide +kernel
theorem dX4_sheet_83 : decode cX4_sheet 83 = .ok (.iastore, 1) := by decide +kernel
theorem dX4_sheet_84 : decode cX4_sheet 84 = .ok (.iinc 4 1, 3) := by decide +kernel
theorem dX4_sheet_87 : decode cX4_sheet 87 = .ok (.goto (-22), 3) := by decide +kernel
theorem dX4_sheet_90 : decode cX4_sheet 90 = .ok (.aload_n 0, 1) := by decide +kernel
theorem dX4_sheet_91 : decode cX4_sheet 91 = .ok (.iconst 1, 1) := by decide +kernel
theorem dX4_sheet_92 : decode cX4_sheet 92 = .ok (.invokevirtual 75, 3) := by decide +kernel
theorem dX4_sheet_95 : decode cX4_sheet 95 = .ok (.ireturn, 1) := by decide +kernel
set_option maxRecDepth 20000 in
theorem ggX4_lose_X4_noSheet : GoodIn wsX4_lose wsX4_noSheet := goodIn_r _ [5, 6, 7, 8, 4, 9] (by decide +kernel) (by decide +kernel)
set_option maxRecDepth 20000 in
theorem gX4_lose_X4_noSheet : GoodIn wsX4_lose (va_wsS RX4 71 yX4_noSheet wsX4_noSheet) := goodIn_app (goodIn_of _ (by decide +kernel)) ggX4_lose_X4_noSheet
theorem dX4_lose_0 : decode cX4_lose 0 = .ok (.iload_n 1, 1) := by decide +kernel
theorem dX4_lose_1 : decode cX4_lose 1 = .ok (.invokestatic 71, 3) := by decide +kernel
theorem dX4_lose_4 : decode cX4_lose 4 = .ok (.ifCond .eq 5, 3) := by decide +kernel
theorem dX4_lose_7 : decode cX4_lose 7 = .ok (.iconst (-1), 1) := by decide +kernel
theorem dX4_lose_8 : decode cX4_lose 8 = .ok (.ireturn, 1) := by decide +kernel
theorem dX4_lose_9 : decode cX4_lose 9 = .ok (.aload_n 0, 1) := by decide +kernel
theorem dX4_lose_10 : decode cX4_lose 10 = .ok (.getfield 49, 3) := by decide +kernel
theorem dX4_lose_13 : decode cX4_lose 13 = .ok (.iload_n 1, 1) := by decide +kernel
theorem dX4_lose_14 : decode cX4_lose 14 = .ok (.iaload, 1) := by decide +kernel
theorem dX4_lose_15 : decode cX4_lose 15 = .ok (.ifCond .ge 7, 3) := by decide +kernel
theorem dX4_lose_18 : decode cX4_lose 18 = .ok (.iconst 0, 1) := by decide +kernel
theorem dX4_lose_19 : decode cX4_lose 19 = .ok (.goto 4, 3) := by decide +kernel
theorem dX4_lose_22 : decode cX4_lose 22 = .ok (.iconst 1, 1) := by decide +kernel
theorem dX4_lose_23 : decode cX4_lose 23 = .ok (.istore_n 2, 1) := by decide +kernel
theorem dX4_lose_24 : decode cX4_lose 24 = .ok (.aload_n 0, 1) := by decide +kernel
theorem dX4_lose_25 : decode cX4_lose 25 = .ok (.getfield 49, 3) := by decide +kernel
theorem dX4_lose_28 : decode cX4_lose 28 = .ok (.iload_n 1, 1) := by decide +kernel
theorem dX4_lose_29 : decode cX4_lose 29 = .ok (.iconst (-1), 1) := by decide +kernel
theorem dX4_lose_30 : decode cX4_lose 30 = .ok (.iastore, 1) := by decide +kernel
theorem dX4_lose_31 : decode cX4_lose 31 = .ok (.iload_n 2, 1) := by decide +kernel
theorem dX4_lose_32 : decode cX4_lose 32 = .ok (.ireturn, 1) := by decide +kernel
set_option maxRecDepth 20000 in
theorem ggX4_noCell_X4_in : GoodIn wsX4_noCell wsX4_in := goodIn_r _ [5] (by decide +kernel) (by decide +kernel)
set_option maxRecDepth 20000 in
theorem gX4_noCell_X4_in : GoodIn wsX4_noCell (va_wsS RX4 81 yX4_in wsX4_in) := goodIn_app (goodIn_of _ (by decide +kernel)) ggX4_noCell_X4_in
theorem dX4_noCell_0 : decode cX4_noCell 0 = .ok (.aload_n 0, 1) := by decide +kernel
theorem dX4_noCell_1 : decode cX4_noCell 1 = .ok (.getfield 49, 3) := by decide +kernel
theorem dX4_noCell_4 : decode cX4_noCell 4 = .ok (.iload_n 1, 1) := by decide +kernel
theorem dX4_noCell_5 : decode cX4_noCell 5 = .ok (.iaload, 1) := by decide +kernel
theorem dX4_noCell_6 : decode cX4_noCell 6 = .ok (.ifCond .ge 7, 3) := by decide +kernel
theorem dX4_noCell_9 : decode cX4_noCell 9 = .ok (.iconst 1, 1) := by decide +kernel
theorem dX4_noCell_10 : decode cX4_noCell 10 = .ok (.goto 26, 3) := by decide +kernel
theorem dX4_noCell_13 : decode cX4_noCell 13 = .ok (.iload_n 2, 1) := by decide +kernel
theorem dX4_noCell_14 : decode cX4_noCell 14 = .ok (.i2l, 1) := by decide +kernel
theorem dX4_noCell_15 : decode cX4_noCell 15 = .ok (.lconst 0, 1) := by decide +kernel
theorem dX4_noCell_16 : decode cX4_noCell 16 = .ok (.aload_n 0, 1) := by decide +kernel
theorem dX4_noCell_17 : decode cX4_noCell 17 = .ok (.getfield 49, 3) := by decide +kernel
theorem dX4_noCell_20 : decode cX4_noCell 20 = .ok (.iload_n 1, 1) := by decide +kernel
theorem dX4_noCell_21 : decode cX4_noCell 21 = .ok (.iaload, 1) := by decide +kernel
theorem dX4_noCell_22 : decode cX4_noCell 22 = .ok (.i2l, 1) := by decide +kernel
theorem dX4_noCell_23 : decode cX4_noCell 23 = .ok (.lconst 1, 1) := by decide +kernel
theorem dX4_noCell_24 : decode cX4_noCell 24 = .ok (.lsub, 1) := by decide +kernel
theorem dX4_noCell_25 : decode cX4_noCell 25 = .ok (.invokestatic 81, 3) := by decide +kernel
theorem dX4_noCell_28 : decode cX4_noCell 28 = .ok (.ifCond .eq 7, 3) := by decide +kernel
theorem dX4_noCell_31 : decode cX4_noCell 31 = .ok (.iconst 0, 1) := by decide +kernel
theorem dX4_noCell_32 : decode cX4_noCell 32 = .ok (.goto 4, 3) := by decide +kernel
theorem dX4_noCell_35 : decode cX4_noCell 35 = .ok (.iconst 3, 1) := by decide +kernel
theorem dX4_noCell_36 : decode cX4_noCell 36 = .ok (.ireturn, 1) := by decide +kernel
set_option maxRecDepth 20000 in
theorem ggX4_put_X4_noSheet : GoodIn wsX4_put wsX4_noSheet := goodIn_r _ [6, 7, 8, 9, 5, 10] (by decide +kernel) (by decide +kernel)
set_option maxRecDepth 20000 in
theorem gX4_put_X4_noSheet : GoodIn wsX4_put (va_wsS RX4 71 yX4_noSheet wsX4_noSheet) := goodIn_app (goodIn_of _ (by decide +kernel)) ggX4_put_X4_noSheet
set_option maxRecDepth 20000 in
theorem ggX4_put_X4_refused : GoodIn wsX4_put wsX4_refused := goodIn_r _ [14, 15, 25, 26, 27, 28, 29, 30, 31, 32, 33, 34, 35, 36, 37, 38, 39, 40, 41, 42, 43, 44, 45, 46, 47, 48, 49] (by decide +kernel) (by decide +kernel)
set_option maxRecDepth 20000 in
theorem gX4_put_X4_refused : GoodIn wsX4_put (wsV RX4 75 RX4 yX4_refused wsX4_refused) := goodIn_app (goodIn_of _ (by decide +kernel)) ggX4_put_X4_refused
set_option maxRecDepth 20000 in
theorem ggX4_put_X4_noCell : GoodIn wsX4_put wsX4_noCell := goodIn_r _ [19, 20, 8, 9, 5, 10, 25, 26, 27, 28, 29, 30, 31, 32, 33, 34, 35, 36, 37, 38, 39, 40, 41, 42, 43, 44, 45, 46, 47, 48, 49] (by decide +kernel) (by decide +kernel)
set_option maxRecDepth 20000 in
theorem gX4_put_X4_noCell : GoodIn wsX4_put (wsV RX4 204 RX4 yX4_noCell wsX4_noCell) := goodIn_app (goodIn_of _ (by decide +kernel)) ggX4_put_X4_noCell
set_option maxRecDepth 20000 in
theorem ggX4_put_X4_failed : GoodIn wsX4_put wsX4_failed := goodIn_r _ [24, 15, 25, 26, 27, 28, 29, 30, 31, 32, 33, 34, 35, 36, 37, 38, 39, 40, 41, 42, 43, 44, 45, 46, 47, 48, 49] (by decide +kernel) (by decide +kernel)
set_option maxRecDepth 20000 in
theorem gX4_put_X4_failed : GoodIn wsX4_put (wsV RX4 85 RX4 yX4_failed wsX4_failed) := goodIn_app (goodIn_of _ (by decide +kernel)) ggX4_put_X4_failed
theorem dX4_put_0 : decode cX4_put 0 = .ok (.iload_n 1, 1) := by decide +kernel
theorem dX4_put_1 : decode cX4_put 1 = .ok (.invokestatic 71, 3) := by decide +kernel
theorem dX4_put_4 : decode cX4_put 4 = .ok (.ifCond .eq 9, 3) := by decide +kernel
theorem dX4_put_7 : decode cX4_put 7 = .ok (.aload_n 0, 1) := by decide +kernel
theorem dX4_put_8 : decode cX4_put 8 = .ok (.iconst (-1), 1) := by decide +kernel
theorem dX4_put_9 : decode cX4_put 9 = .ok (.invokevirtual 75, 3) := by decide +kernel
theorem dX4_put_12 : decode cX4_put 12 = .ok (.ireturn, 1) := by decide +kernel
theorem dX4_put_13 : decode cX4_put 13 = .ok (.aload_n 0, 1) := by decide +kernel
theorem dX4_put_14 : decode cX4_put 14 = .ok (.iload_n 1, 1) := by decide +kernel
theorem dX4_put_15 : decode cX4_put 15 = .ok (.iload_n 2, 1) := by decide +kernel
theorem dX4_put_16 : decode cX4_put 16 = .ok (.invokevirtual 204, 3) := by decide +kernel
theorem dX4_put_19 : decode cX4_put 19 = .ok (.ifCond .le 14, 3) := by decide +kernel
theorem dX4_put_22 : decode cX4_put 22 = .ok (.aload_n 0, 1) := by decide +kernel
theorem dX4_put_23 : decode cX4_put 23 = .ok (.aload_n 0, 1) := by decide +kernel
theorem dX4_put_24 : decode cX4_put 24 = .ok (.iload_n 1, 1) := by decide +kernel
theorem dX4_put_25 : decode cX4_put 25 = .ok (.iload_n 2, 1) := by decide +kernel
theorem dX4_put_26 : decode cX4_put 26 = .ok (.invokevirtual 204, 3) := by decide +kernel
theorem dX4_put_29 : decode cX4_put 29 = .ok (.invokevirtual 85, 3) := by decide +kernel
theorem dX4_put_32 : decode cX4_put 32 = .ok (.ireturn, 1) := by decide +kernel
theorem dX4_put_33 : decode cX4_put 33 = .ok (.aload_n 0, 1) := by decide +kernel
theorem dX4_put_34 : decode cX4_put 34 = .ok (.getfield 55, 3) := by decide +kernel
theorem dX4_put_37 : decode cX4_put 37 = .ok (.bipush 90, 2) := by decide +kernel
theorem dX4_put_39 : decode cX4_put 39 = .ok (.iload_n 1, 1) := by decide +kernel
theorem dX4_put_40 : decode cX4_put 40 = .ok (.imul, 1) := by decide +kernel
theorem dX4_put_41 : decode cX4_put 41 = .ok (.iload_n 2, 1) := by decide +kernel
theorem dX4_put_42 : decode cX4_put 42 = .ok (.iadd, 1) := by decide +kernel
theorem dX4_put_43 : decode cX4_put 43 = .ok (.aload_n 0, 1) := by decide +kernel
theorem dX4_put_44 : decode cX4_put 44 = .ok (.getfield 52, 3) := by decide +kernel
theorem dX4_put_47 : decode cX4_put 47 = .ok (.iload_n 1, 1) := by decide +kernel
theorem dX4_put_48 : decode cX4_put 48 = .ok (.iaload, 1) := by decide +kernel
theorem dX4_put_49 : decode cX4_put 49 = .ok (.ifCond .ne 8, 3) := by decide +kernel
theorem dX4_put_52 : decode cX4_put 52 = .ok (.iload_n 3, 1) := by decide +kernel
theorem dX4_put_53 : decode cX4_put 53 = .ok (.i2b, 1) := by decide +kernel
theorem dX4_put_54 : decode cX4_put 54 = .ok (.goto 19, 3) := by decide +kernel
theorem dX4_put_57 : decode cX4_put 57 = .ok (.aload_n 0, 1) := by decide +kernel
theorem dX4_put_58 : decode cX4_put 58 = .ok (.getfield 52, 3) := by decide +kernel
theorem dX4_put_61 : decode cX4_put 61 = .ok (.iload_n 1, 1) := by decide +kernel
theorem dX4_put_62 : decode cX4_put 62 = .ok (.iaload, 1) := by decide +kernel
theorem dX4_put_63 : decode cX4_put 63 = .ok (.iconst 1, 1) := by decide +kernel
theorem dX4_put_64 : decode cX4_put 64 = .ok (.if_icmp .ne 8, 3) := by decide +kernel
theorem dX4_put_67 : decode cX4_put 67 = .ok (.iload_n 3, 1) := by decide +kernel
theorem dX4_put_68 : decode cX4_put 68 = .ok (.i2s, 1) := by decide +kernel
theorem dX4_put_69 : decode cX4_put 69 = .ok (.goto 4, 3) := by decide +kernel
theorem dX4_put_72 : decode cX4_put 72 = .ok (.iload_n 3, 1) := by decide +kernel
theorem dX4_put_73 : decode cX4_put 73 = .ok (.iastore, 1) := by decide +kernel
theorem dX4_put_74 : decode cX4_put 74 = .ok (.aload_n 0, 1) := by decide +kernel
theorem dX4_put_75 : decode cX4_put 75 = .ok (.iconst 1, 1) := by decide +kernel
theorem dX4_put_76 : decode cX4_put 76 = .ok (.invokevirtual 75, 3) := by decide +kernel
theorem dX4_put_79 : decode cX4_put 79 = .ok (.ireturn, 1) := by decide +kernel
set_option maxRecDepth 20000 in
theorem ggX4_cell_X4_noSheet : GoodIn wsX4_cell wsX4_noSheet := goodIn_r _ [9, 10, 11, 12, 8, 13] (by decide +kernel) (by decide +kernel)
set_option maxRecDepth 20000 in
theorem gX4_cell_X4_noSheet : GoodIn wsX4_cell (va_wsS RX4 71 yX4_noSheet wsX4_noSheet) := goodIn_app (goodIn_of _ (by decide +kernel)) ggX4_cell_X4_noSheet
set_option maxRecDepth 20000 in
theorem ggX4_cell_X4_in : GoodIn wsX4_cell wsX4_in := goodIn_r _ [13] (by decide +kernel) (by decide +kernel)
set_option maxRecDepth 20000 in
theorem gX4_cell_X4_in : GoodIn wsX4_cell (va_wsS RX4 81 yX4_in wsX4_in) := goodIn_app (goodIn_of _ (by decide +kernel)) ggX4_cell_X4_in
set_option maxRecDepth 20000 in
theorem ggX4_cell_X4_lost : GoodIn wsX4_cell wsX4_lost := goodIn_r _ [16, 17] (by decide +kernel) (by decide +kernel)
set_option maxRecDepth 20000 in
theorem gX4_cell_X4_lost : GoodIn wsX4_cell (va_wsS RX4 67 yX4_lost wsX4_lost) := goodIn_app (goodIn_of _ (by decide +kernel)) ggX4_cell_X4_lost
set_option maxRecDepth 20000 in
theorem ggX4_cell_X4_failedLong : GoodIn wsX4_cell wsX4_failedLong := goodIn_r _ [21, 1, 14, 15, 8, 16, 17, 26, 27, 28, 29, 30, 31, 32, 33, 34, 35, 36, 37, 38, 39, 40, 41, 42, 43, 44, 45, 46, 47, 48, 49, 50] (by decide +kernel) (by decide +kernel)
set_option maxRecDepth 20000 in
theorem gX4_cell_X4_failedLong : GoodIn wsX4_cell (wsV RX4 207 RX4 yX4_failedLong wsX4_failedLong) := goodIn_app (goodIn_of _ (by decide +kernel)) ggX4_cell_X4_failedLong
set_option maxRecDepth 20000 in
theorem ggX4_cell_X4_noCell : GoodIn wsX4_cell wsX4_noCell := goodIn_r _ [25, 3, 11, 12, 8, 13, 26, 27, 28, 29, 30, 31, 32, 33, 34, 35, 36, 37, 38, 39, 40, 41, 42, 43, 44, 45, 46, 47, 48, 49, 50] (by decide +kernel) (by decide +kernel)
set_option maxRecDepth 20000 in
theorem gX4_cell_X4_noCell : GoodIn wsX4_cell (wsV RX4 204 RX4 yX4_noCell wsX4_noCell) := goodIn_app (goodIn_of _ (by decide +kernel)) ggX4_cell_X4_noCell
theorem dX4_cell_0 : decode cX4_cell 0 = .ok (.aload_n 0, 1) := by decide +kernel
theorem dX4_cell_1 : decode cX4_cell 1 = .ok (.iconst 0, 1) := by decide +kernel
theorem dX4_cell_2 : decode cX4_cell 2 = .ok (.putfield 63, 3) := by decide +kernel
theorem dX4_cell_5 : decode cX4_cell 5 = .ok (.iload_n 1, 1) := by decide +kernel
theorem dX4_cell_6 : decode cX4_cell 6 = .ok (.invokestatic 71, 3) := by decide +kernel
theorem dX4_cell_9 : decode cX4_cell 9 = .ok (.ifCond .ne 15, 3) := by decide +kernel
theorem dX4_cell_12 : decode cX4_cell 12 = .ok (.iload_n 3, 1) := by decide +kernel
theorem dX4_cell_13 : decode cX4_cell 13 = .ok (.i2l, 1) := by decide +kernel
theorem dX4_cell_14 : decode cX4_cell 14 = .ok (.lconst 0, 1) := by decide +kernel
theorem dX4_cell_15 : decode cX4_cell 15 = .ok (.ldc2_w 79, 3) := by decide +kernel
theorem dX4_cell_18 : decode cX4_cell 18 = .ok (.invokestatic 81, 3) := by decide +kernel
theorem dX4_cell_21 : decode cX4_cell 21 = .ok (.ifCond .ne 7, 3) := by decide +kernel
theorem dX4_cell_24 : decode cX4_cell 24 = .ok (.invokestatic 67, 3) := by decide +kernel
theorem dX4_cell_27 : decode cX4_cell 27 = .ok (.lreturn, 1) := by decide +kernel
theorem dX4_cell_28 : decode cX4_cell 28 = .ok (.aload_n 0, 1) := by decide +kernel
theorem dX4_cell_29 : decode cX4_cell 29 = .ok (.getfield 49, 3) := by decide +kernel
theorem dX4_cell_32 : decode cX4_cell 32 = .ok (.iload_n 1, 1) := by decide +kernel
theorem dX4_cell_33 : decode cX4_cell 33 = .ok (.iaload, 1) := by decide +kernel
theorem dX4_cell_34 : decode cX4_cell 34 = .ok (.ifCond .lt 19, 3) := by decide +kernel
theorem dX4_cell_37 : decode cX4_cell 37 = .ok (.aload_n 0, 1) := by decide +kernel
theorem dX4_cell_38 : decode cX4_cell 38 = .ok (.getfield 52, 3) := by decide +kernel
theorem dX4_cell_41 : decode cX4_cell 41 = .ok (.iload_n 1, 1) := by decide +kernel
theorem dX4_cell_42 : decode cX4_cell 42 = .ok (.iaload, 1) := by decide +kernel
theorem dX4_cell_43 : decode cX4_cell 43 = .ok (.iload_n 3, 1) := by decide +kernel
theorem dX4_cell_44 : decode cX4_cell 44 = .ok (.if_icmp .eq 9, 3) := by decide +kernel
theorem dX4_cell_47 : decode cX4_cell 47 = .ok (.aload_n 0, 1) := by decide +kernel
theorem dX4_cell_48 : decode cX4_cell 48 = .ok (.iconst 2, 1) := by decide +kernel
theorem dX4_cell_49 : decode cX4_cell 49 = .ok (.invokevirtual 207, 3) := by decide +kernel
theorem dX4_cell_52 : decode cX4_cell 52 = .ok (.lreturn, 1) := by decide +kernel
theorem dX4_cell_53 : decode cX4_cell 53 = .ok (.aload_n 0, 1) := by decide +kernel
theorem dX4_cell_54 : decode cX4_cell 54 = .ok (.iload_n 1, 1) := by decide +kernel
theorem dX4_cell_55 : decode cX4_cell 55 = .ok (.iload_n 2, 1) := by decide +kernel
theorem dX4_cell_56 : decode cX4_cell 56 = .ok (.invokevirtual 204, 3) := by decide +kernel
theorem dX4_cell_59 : decode cX4_cell 59 = .ok (.ifCond .le 16, 3) := by decide +kernel
theorem dX4_cell_62 : decode cX4_cell 62 = .ok (.aload_n 0, 1) := by decide +kernel
theorem dX4_cell_63 : decode cX4_cell 63 = .ok (.aload_n 0, 1) := by decide +kernel
theorem dX4_cell_64 : decode cX4_cell 64 = .ok (.iload_n 1, 1) := by decide +kernel
theorem dX4_cell_65 : decode cX4_cell 65 = .ok (.iload_n 2, 1) := by decide +kernel
theorem dX4_cell_66 : decode cX4_cell 66 = .ok (.invokevirtual 204, 3) := by decide +kernel
theorem dX4_cell_69 : decode cX4_cell 69 = .ok (.invokevirtual 207, 3) := by decide +kernel
theorem dX4_cell_72 : decode cX4_cell 72 = .ok (.goto 15, 3) := by decide +kernel
theorem dX4_cell_75 : decode cX4_cell 75 = .ok (.aload_n 0, 1) := by decide +kernel
theorem dX4_cell_76 : decode cX4_cell 76 = .ok (.getfield 55, 3) := by decide +kernel
theorem dX4_cell_79 : decode cX4_cell 79 = .ok (.bipush 90, 2) := by decide +kernel
theorem dX4_cell_81 : decode cX4_cell 81 = .ok (.iload_n 1, 1) := by decide +kernel
theorem dX4_cell_82 : decode cX4_cell 82 = .ok (.imul, 1) := by decide +kernel
theorem dX4_cell_83 : decode cX4_cell 83 = .ok (.iload_n 2, 1) := by decide +kernel
theorem dX4_cell_84 : decode cX4_cell 84 = .ok (.iadd, 1) := by decide +kernel
theorem dX4_cell_85 : decode cX4_cell 85 = .ok (.iaload, 1) := by decide +kernel
theorem dX4_cell_86 : decode cX4_cell 86 = .ok (.i2l, 1) := by decide +kernel
theorem dX4_cell_87 : decode cX4_cell 87 = .ok (.lreturn, 1) := by decide +kernel
theorem dX4_isBeyond_0 : decode cX4_isBeyond 0 = .ok (.iload_n 0, 1) := by decide +kernel
theorem dX4_isBeyond_1 : decode cX4_isBeyond 1 = .ok (.ifCond .lt 19, 3) := by decide +kernel
theorem dX4_isBeyond_4 : decode cX4_isBeyond 4 = .ok (.lload_n 1, 1) := by decide +kernel
theorem dX4_isBeyond_5 : decode cX4_isBeyond 5 = .ok (.lconst 0, 1) := by decide +kernel
theorem dX4_isBeyond_6 : decode cX4_isBeyond 6 = .ok (.lcmp, 1) := by decide +kernel
theorem dX4_isBeyond_7 : decode cX4_isBeyond 7 = .ok (.ifCond .lt 13, 3) := by decide +kernel
theorem dX4_isBeyond_10 : decode cX4_isBeyond 10 = .ok (.iload_n 0, 1) := by decide +kernel
theorem dX4_isBeyond_11 : decode cX4_isBeyond 11 = .ok (.i2l, 1) := by decide +kernel
theorem dX4_isBeyond_12 : decode cX4_isBeyond 12 = .ok (.lload_n 1, 1) := by decide +kernel
theorem dX4_isBeyond_13 : decode cX4_isBeyond 13 = .ok (.ladd, 1) := by decide +kernel
theorem dX4_isBeyond_14 : decode cX4_isBeyond 14 = .ok (.iload_n 3, 1) := by decide +kernel
theorem dX4_isBeyond_15 : decode cX4_isBeyond 15 = .ok (.i2l, 1) := by decide +kernel
theorem dX4_isBeyond_16 : decode cX4_isBeyond 16 = .ok (.lcmp, 1) := by decide +kernel
theorem dX4_isBeyond_17 : decode cX4_isBeyond 17 = .ok (.ifCond .le 7, 3) := by decide +kernel
theorem dX4_isBeyond_20 : decode cX4_isBeyond 20 = .ok (.iconst 1, 1) := by decide +kernel
theorem dX4_isBeyond_21 : decode cX4_isBeyond 21 = .ok (.goto 4, 3) := by decide +kernel
theorem dX4_isBeyond_24 : decode cX4_isBeyond 24 = .ok (.iconst 0, 1) := by decide +kernel
theorem dX4_isBeyond_25 : decode cX4_isBeyond 25 = .ok (.ireturn, 1) := by decide +kernel
set_option maxRecDepth 20000 in
theorem ggX4_copy_X4_noSheet : GoodIn wsX4_copy wsX4_noSheet := goodIn_r _ [8, 9, 10, 11, 7, 12] (by decide +kernel) (by decide +kernel)
set_option maxRecDepth 20000 in
theorem gX4_copy_X4_noSheet : GoodIn wsX4_copy (va_wsS RX4 71 yX4_noSheet wsX4_noSheet) := goodIn_app (goodIn_of _ (by decide +kernel)) ggX4_copy_X4_noSheet
set_option maxRecDepth 20000 in
theorem ggX4_copy_X4_refused : GoodIn wsX4_copy wsX4_refused := goodIn_r _ [16, 17, 25, 26, 27, 28, 29, 30, 31, 32, 33, 34, 35, 36, 37, 38, 39, 40, 41, 42, 43, 44, 45, 46, 47, 48, 49] (by decide +kernel) (by decide +kernel)
set_option maxRecDepth 20000 in
theorem gX4_copy_X4_refused : GoodIn wsX4_copy (wsV RX4 75 RX4 yX4_refused wsX4_refused) := goodIn_app (goodIn_of _ (by decide +kernel)) ggX4_copy_X4_refused
set_option maxRecDepth 20000 in
theorem ggX4_copy_X4_failed : GoodIn wsX4_copy wsX4_failed := goodIn_r _ [21, 17, 25, 26, 27, 28, 29, 30, 31, 32, 33, 34, 35, 36, 37, 38, 39, 40, 41, 42, 43, 44, 45, 46, 47, 48, 49] (by decide +kernel) (by decide +kernel)
set_option maxRecDepth 20000 in
theorem gX4_copy_X4_failed : GoodIn wsX4_copy (wsV RX4 85 RX4 yX4_failed wsX4_failed) := goodIn_app (goodIn_of _ (by decide +kernel)) ggX4_copy_X4_failed
set_option maxRecDepth 20000 in
theorem ggX4_copy_X4_isBeyond : GoodIn wsX4_copy wsX4_isBeyond := goodIn_r _ [24] (by decide +kernel) (by decide +kernel)
set_option maxRecDepth 20000 in
theorem gX4_copy_X4_isBeyond : GoodIn wsX4_copy (va_wsS RX4 88 yX4_isBeyond wsX4_isBeyond) := goodIn_app (goodIn_of _ (by decide +kernel)) ggX4_copy_X4_isBeyond
theorem dX4_copy_0 : decode cX4_copy 0 = .ok (.iload_n 1, 1) := by decide +kernel
theorem dX4_copy_1 : decode cX4_copy 1 = .ok (.invokestatic 71, 3) := by decide +kernel
theorem dX4_copy_4 : decode cX4_copy 4 = .ok (.ifCond .ne 10, 3) := by decide +kernel
theorem dX4_copy_7 : decode cX4_copy 7 = .ok (.iload_n 3, 1) := by decide +kernel
theorem dX4_copy_8 : decode cX4_copy 8 = .ok (.invokestatic 71, 3) := by decide +kernel
theorem dX4_copy_11 : decode cX4_copy 11 = .ok (.ifCond .eq 9, 3) := by decide +kernel
theorem dX4_copy_14 : decode cX4_copy 14 = .ok (.aload_n 0, 1) := by decide +kernel
theorem dX4_copy_15 : decode cX4_copy 15 = .ok (.iconst (-1), 1) := by decide +kernel
theorem dX4_copy_16 : decode cX4_copy 16 = .ok (.invokevirtual 75, 3) := by decide +kernel
theorem dX4_copy_19 : decode cX4_copy 19 = .ok (.ireturn, 1) := by decide +kernel
theorem dX4_copy_20 : decode cX4_copy 20 = .ok (.aload_n 0, 1) := by decide +kernel
theorem dX4_copy_21 : decode cX4_copy 21 = .ok (.getfield 49, 3) := by decide +kernel
theorem dX4_copy_24 : decode cX4_copy 24 = .ok (.iload_n 1, 1) := by decide +kernel
theorem dX4_copy_25 : decode cX4_copy 25 = .ok (.iaload, 1) := by decide +kernel
theorem dX4_copy_26 : decode cX4_copy 26 = .ok (.ifCond .lt 12, 3) := by decide +kernel
theorem dX4_copy_29 : decode cX4_copy 29 = .ok (.aload_n 0, 1) := by decide +kernel
theorem dX4_copy_30 : decode cX4_copy 30 = .ok (.getfield 49, 3) := by decide +kernel
theorem dX4_copy_33 : decode cX4_copy 33 = .ok (.iload_n 3, 1) := by decide +kernel
theorem dX4_copy_34 : decode cX4_copy 34 = .ok (.iaload, 1) := by decide +kernel
theorem dX4_copy_35 : decode cX4_copy 35 = .ok (.ifCond .ge 9, 3) := by decide +kernel
theorem dX4_copy_38 : decode cX4_copy 38 = .ok (.aload_n 0, 1) := by decide +kernel
theorem dX4_copy_39 : decode cX4_copy 39 = .ok (.iconst 1, 1) := by decide +kernel
theorem dX4_copy_40 : decode cX4_copy 40 = .ok (.invokevirtual 85, 3) := by decide +kernel
theorem dX4_copy_43 : decode cX4_copy 43 = .ok (.ireturn, 1) := by decide +kernel
theorem dX4_copy_44 : decode cX4_copy 44 = .ok (.aload_n 0, 1) := by decide +kernel
theorem dX4_copy_45 : decode cX4_copy 45 = .ok (.getfield 52, 3) := by decide +kernel
theorem dX4_copy_48 : decode cX4_copy 48 = .ok (.iload_n 1, 1) := by decide +kernel
theorem dX4_copy_49 : decode cX4_copy 49 = .ok (.iaload, 1) := by decide +kernel
theorem dX4_copy_50 : decode cX4_copy 50 = .ok (.aload_n 0, 1) := by decide +kernel
theorem dX4_copy_51 : decode cX4_copy 51 = .ok (.getfield 52, 3) := by decide +kernel
theorem dX4_copy_54 : decode cX4_copy 54 = .ok (.iload_n 3, 1) := by decide +kernel
theorem dX4_copy_55 : decode cX4_copy 55 = .ok (.iaload, 1) := by decide +kernel
theorem dX4_copy_56 : decode cX4_copy 56 = .ok (.if_icmp .eq 9, 3) := by decide +kernel
theorem dX4_copy_59 : decode cX4_copy 59 = .ok (.aload_n 0, 1) := by decide +kernel
theorem dX4_copy_60 : decode cX4_copy 60 = .ok (.iconst 2, 1) := by decide +kernel
theorem dX4_copy_61 : decode cX4_copy 61 = .ok (.invokevirtual 85, 3) := by decide +kernel
theorem dX4_copy_64 : decode cX4_copy 64 = .ok (.ireturn, 1) := by decide +kernel
theorem dX4_copy_65 : decode cX4_copy 65 = .ok (.iload_n 2, 1) := by decide +kernel
theorem dX4_copy_66 : decode cX4_copy 66 = .ok (.iload 5, 2) := by decide +kernel
theorem dX4_copy_68 : decode cX4_copy 68 = .ok (.i2l, 1) := by decide +kernel
theorem dX4_copy_69 : decode cX4_copy 69 = .ok (.aload_n 0, 1) := by decide +kernel
theorem dX4_copy_70 : decode cX4_copy 70 = .ok (.getfield 49, 3) := by decide +kernel
theorem dX4_copy_73 : decode cX4_copy 73 = .ok (.iload_n 1, 1) := by decide +kernel
theorem dX4_copy_74 : decode cX4_copy 74 = .ok (.iaload, 1) := by decide +kernel
theorem dX4_copy_75 : decode cX4_copy 75 = .ok (.invokestatic 88, 3) := by decide +kernel
theorem dX4_copy_78 : decode cX4_copy 78 = .ok (.ifCond .ne 20, 3) := by decide +kernel
theorem dX4_copy_81 : decode cX4_copy 81 = .ok (.iload 4, 2) := by decide +kernel
theorem dX4_copy_83 : decode cX4_copy 83 = .ok (.iload 5, 2) := by decide +kernel
theorem dX4_copy_85 : decode cX4_copy 85 = .ok (.i2l, 1) := by decide +kernel
theorem dX4_copy_86 : decode cX4_copy 86 = .ok (.aload_n 0, 1) := by decide +kernel
theorem dX4_copy_87 : decode cX4_copy 87 = .ok (.getfield 49, 3) := by decide +kernel
theorem dX4_copy_90 : decode cX4_copy 90 = .ok (.iload_n 3, 1) := by decide +kernel
theorem dX4_copy_91 : decode cX4_copy 91 = .ok (.iaload, 1) := by decide +kernel
theorem dX4_copy_92 : decode cX4_copy 92 = .ok (.invokestatic 88, 3) := by decide +kernel
theorem dX4_copy_95 : decode cX4_copy 95 = .ok (.ifCond .eq 9, 3) := by decide +kernel
theorem dX4_copy_98 : decode cX4_copy 98 = .ok (.aload_n 0, 1) := by decide +kernel
theorem dX4_copy_99 : decode cX4_copy 99 = .ok (.iconst 3, 1) := by decide +kernel
theorem dX4_copy_100 : decode cX4_copy 100 = .ok (.invokevirtual 85, 3) := by decide +kernel
theorem dX4_copy_103 : decode cX4_copy 103 = .ok (.ireturn, 1) := by decide +kernel
theorem dX4_copy_104 : decode cX4_copy 104 = .ok (.iconst 0, 1) := by decide +kernel
theorem dX4_copy_105 : decode cX4_copy 105 = .ok (.istore 6, 2) := by decide +kernel
theorem dX4_copy_107 : decode cX4_copy 107 = .ok (.iload 6, 2) := by decide +kernel
theorem dX4_copy_109 : decode cX4_copy 109 = .ok (.iload 5, 2) := by decide +kernel
theorem dX4_copy_111 : decode cX4_copy 111 = .ok (.if_icmp .ge 30, 3) := by decide +kernel
theorem dX4_copy_114 : decode cX4_copy 114 = .ok (.aload_n 0, 1) := by decide +kernel
theorem dX4_copy_115 : decode cX4_copy 115 = .ok (.getfield 58, 3) := by decide +kernel
theorem dX4_copy_118 : decode cX4_copy 118 = .ok (.iload 6, 2) := by decide +kernel
theorem dX4_copy_120 : decode cX4_copy 120 = .ok (.aload_n 0, 1) := by decide +kernel
theorem dX4_copy_121 : decode cX4_copy 121 = .ok (.getfield 55, 3) := by decide +kernel
theorem dX4_copy_124 : decode cX4_copy 124 = .ok (.bipush 90, 2) := by decide +kernel
theorem dX4_copy_126 : decode cX4_copy 126 = .ok (.iload_n 1, 1) := by decide +kernel
theorem dX4_copy_127 : decode cX4_copy 127 = .ok (.imul, 1) := by decide +kernel
theorem dX4_copy_128 : decode cX4_copy 128 = .ok (.iload_n 2, 1) := by decide +kernel
theorem dX4_copy_129 : decode cX4_copy 129 = .ok (.iadd, 1) := by decide +kernel
theorem dX4_copy_130 : decode cX4_copy 130 = .ok (.iload 6, 2) := by decide +kernel
theorem dX4_copy_132 : decode cX4_copy 132 = .ok (.iadd, 1) := by decide +kernel
theorem dX4_copy_133 : decode cX4_copy 133 = .ok (.iaload, 1) := by decide +kernel
theorem dX4_copy_134 : decode cX4_copy 134 = .ok (.iastore, 1) := by decide +kernel
theorem dX4_copy_135 : decode cX4_copy 135 = .ok (.iinc 6 1, 3) := by decide +kernel
theorem dX4_copy_138 : decode cX4_copy 138 = .ok (.goto (-31), 3) := by decide +kernel
theorem dX4_copy_141 : decode cX4_copy 141 = .ok (.iconst 0, 1) := by decide +kernel
theorem dX4_copy_142 : decode cX4_copy 142 = .ok (.istore 6, 2) := by decide +kernel
theorem dX4_copy_144 : decode cX4_copy 144 = .ok (.iload 6, 2) := by decide +kernel
theorem dX4_copy_146 : decode cX4_copy 146 = .ok (.iload 5, 2) := by decide +kernel
theorem dX4_copy_148 : decode cX4_copy 148 = .ok (.if_icmp .ge 31, 3) := by decide +kernel
theorem dX4_copy_151 : decode cX4_copy 151 = .ok (.aload_n 0, 1) := by decide +kernel
theorem dX4_copy_152 : decode cX4_copy 152 = .ok (.getfield 55, 3) := by decide +kernel
theorem dX4_copy_155 : decode cX4_copy 155 = .ok (.bipush 90, 2) := by decide +kernel
theorem dX4_copy_157 : decode cX4_copy 157 = .ok (.iload_n 3, 1) := by decide +kernel
theorem dX4_copy_158 : decode cX4_copy 158 = .ok (.imul, 1) := by decide +kernel
theorem dX4_copy_159 : decode cX4_copy 159 = .ok (.iload 4, 2) := by decide +kernel
theorem dX4_copy_161 : decode cX4_copy 161 = .ok (.iadd, 1) := by decide +kernel
theorem dX4_copy_162 : decode cX4_copy 162 = .ok (.iload 6, 2) := by decide +kernel
theorem dX4_copy_164 : decode cX4_copy 164 = .ok (.iadd, 1) := by decide +kernel
theorem dX4_copy_165 : decode cX4_copy 165 = .ok (.aload_n 0, 1) := by decide +kernel
theorem dX4_copy_166 : decode cX4_copy 166 = .ok (.getfield 58, 3) := by decide +kernel
theorem dX4_copy_169 : decode cX4_copy 169 = .ok (.iload 6, 2) := by decide +kernel
theorem dX4_copy_171 : decode cX4_copy 171 = .ok (.iaload, 1) := by decide +kernel
theorem dX4_copy_172 : decode cX4_copy 172 = .ok (.iastore, 1) := by decide +kernel
theorem dX4_copy_173 : decode cX4_copy 173 = .ok (.iinc 6 1, 3) := by decide +kernel
theorem dX4_copy_176 : decode cX4_copy 176 = .ok (.goto (-32), 3) := by decide +kernel
theorem dX4_copy_179 : decode cX4_copy 179 = .ok (.aload_n 0, 1) := by decide +kernel
theorem dX4_copy_180 : decode cX4_copy 180 = .ok (.iload 5, 2) := by decide +kernel
theorem dX4_copy_182 : decode cX4_copy 182 = .ok (.invokevirtual 75, 3) := by decide +kernel
theorem dX4_copy_185 : decode cX4_copy 185 = .ok (.ireturn, 1) := by decide +kernel
theorem dX4_traced_0 : decode cX4_traced 0 = .ok (.aload_n 0, 1) := by decide +kernel
theorem dX4_traced_1 : decode cX4_traced 1 = .ok (.bipush 31, 2) := by decide +kernel
theorem dX4_traced_3 : decode cX4_traced 3 = .ok (.aload_n 0, 1) := by decide +kernel
theorem dX4_traced_4 : decode cX4_traced 4 = .ok (.getfield 211, 3) := by decide +kernel
theorem dX4_traced_7 : decode cX4_traced 7 = .ok (.imul, 1) := by decide +kernel
theorem dX4_traced_8 : decode cX4_traced 8 = .ok (.iload_n 1, 1) := by decide +kernel
theorem dX4_traced_9 : decode cX4_traced 9 = .ok (.iadd, 1) := by decide +kernel
theorem dX4_traced_10 : decode cX4_traced 10 = .ok (.putfield 211, 3) := by decide +kernel
theorem dX4_traced_13 : decode cX4_traced 13 = .ok (.return_, 1) := by decide +kernel
set_option maxRecDepth 20000 in
theorem ggX4_tell_X4_noSign : GoodIn wsX4_tell wsX4_noSign := goodIn_r _ [6, 7, 8, 9, 5, 10, 21, 22, 23, 24, 25, 26, 27, 28, 29, 30, 31, 32, 33, 34, 35, 36, 37, 38, 39, 40, 41, 42, 43, 44, 45] (by decide +kernel) (by decide +kernel)
set_option maxRecDepth 20000 in
theorem gX4_tell_X4_noSign : GoodIn wsX4_tell (wsV RX4 129 RX4 yX4_noSign wsX4_noSign) := goodIn_app (goodIn_of _ (by decide +kernel)) ggX4_tell_X4_noSign
set_option maxRecDepth 20000 in
theorem ggX4_tell_X4_traced : GoodIn wsX4_tell wsX4_traced := goodIn_r _ [14, 15, 21, 22, 23, 24, 25, 26, 27, 28, 29, 30, 31, 32, 33, 34, 35, 36, 37, 38, 39, 40, 41, 42, 43, 44, 45] (by decide +kernel) (by decide +kernel)
set_option maxRecDepth 20000 in
theorem gX4_tell_X4_traced : GoodIn wsX4_tell (wsV RX4 214 RX4 yX4_traced wsX4_traced) := goodIn_app (goodIn_of _ (by decide +kernel)) ggX4_tell_X4_traced
set_option maxRecDepth 20000 in
theorem ggX4_tell_X4_strong : GoodIn wsX4_tell wsX4_strong := goodIn_r _ [19, 20, 21, 22, 23, 24, 25, 26, 27, 28, 29, 30, 31, 32, 33, 34, 35, 36, 37, 38, 39, 40, 41, 42, 43, 44, 45] (by decide +kernel) (by decide +kernel)
set_option maxRecDepth 20000 in
theorem gX4_tell_X4_strong : GoodIn wsX4_tell (wsV RX4 135 RX4 yX4_strong wsX4_strong) := goodIn_app (goodIn_of _ (by decide +kernel)) ggX4_tell_X4_strong
theorem dX4_tell_0 : decode cX4_tell 0 = .ok (.aload_n 0, 1) := by decide +kernel
theorem dX4_tell_1 : decode cX4_tell 1 = .ok (.iload_n 1, 1) := by decide +kernel
theorem dX4_tell_2 : decode cX4_tell 2 = .ok (.invokevirtual 129, 3) := by decide +kernel
theorem dX4_tell_5 : decode cX4_tell 5 = .ok (.ifCond .eq 5, 3) := by decide +kernel
theorem dX4_tell_8 : decode cX4_tell 8 = .ok (.iconst (-1), 1) := by decide +kernel
theorem dX4_tell_9 : decode cX4_tell 9 = .ok (.ireturn, 1) := by decide +kernel
theorem dX4_tell_10 : decode cX4_tell 10 = .ok (.aload_n 0, 1) := by decide +kernel
theorem dX4_tell_11 : decode cX4_tell 11 = .ok (.getfield 7, 3) := by decide +kernel
theorem dX4_tell_14 : decode cX4_tell 14 = .ok (.iload_n 1, 1) := by decide +kernel
theorem dX4_tell_15 : decode cX4_tell 15 = .ok (.iaload, 1) := by decide +kernel
theorem dX4_tell_16 : decode cX4_tell 16 = .ok (.istore_n 2, 1) := by decide +kernel
theorem dX4_tell_17 : decode cX4_tell 17 = .ok (.iload_n 2, 1) := by decide +kernel
theorem dX4_tell_18 : decode cX4_tell 18 = .ok (.iconst 2, 1) := by decide +kernel
theorem dX4_tell_19 : decode cX4_tell 19 = .ok (.if_icmp .ne 8, 3) := by decide +kernel
theorem dX4_tell_22 : decode cX4_tell 22 = .ok (.aload_n 0, 1) := by decide +kernel
theorem dX4_tell_23 : decode cX4_tell 23 = .ok (.iconst 3, 1) := by decide +kernel
theorem dX4_tell_24 : decode cX4_tell 24 = .ok (.invokevirtual 214, 3) := by decide +kernel
theorem dX4_tell_27 : decode cX4_tell 27 = .ok (.iload_n 2, 1) := by decide +kernel
theorem dX4_tell_28 : decode cX4_tell 28 = .ok (.ifCond .le 8, 3) := by decide +kernel
theorem dX4_tell_31 : decode cX4_tell 31 = .ok (.aload_n 0, 1) := by decide +kernel
theorem dX4_tell_32 : decode cX4_tell 32 = .ok (.iconst 2, 1) := by decide +kernel
theorem dX4_tell_33 : decode cX4_tell 33 = .ok (.invokevirtual 214, 3) := by decide +kernel
theorem dX4_tell_36 : decode cX4_tell 36 = .ok (.aload_n 0, 1) := by decide +kernel
theorem dX4_tell_37 : decode cX4_tell 37 = .ok (.iconst 1, 1) := by decide +kernel
theorem dX4_tell_38 : decode cX4_tell 38 = .ok (.invokevirtual 214, 3) := by decide +kernel
theorem dX4_tell_41 : decode cX4_tell 41 = .ok (.iload_n 2, 1) := by decide +kernel
theorem dX4_tell_42 : decode cX4_tell 42 = .ok (.iconst 2, 1) := by decide +kernel
theorem dX4_tell_43 : decode cX4_tell 43 = .ok (.if_icmp .ne 8, 3) := by decide +kernel
theorem dX4_tell_46 : decode cX4_tell 46 = .ok (.aload_n 0, 1) := by decide +kernel
theorem dX4_tell_47 : decode cX4_tell 47 = .ok (.iconst 1, 1) := by decide +kernel
theorem dX4_tell_48 : decode cX4_tell 48 = .ok (.invokevirtual 214, 3) := by decide +kernel
theorem dX4_tell_51 : decode cX4_tell 51 = .ok (.aload_n 0, 1) := by decide +kernel
theorem dX4_tell_52 : decode cX4_tell 52 = .ok (.iload_n 1, 1) := by decide +kernel
theorem dX4_tell_53 : decode cX4_tell 53 = .ok (.iconst 0, 1) := by decide +kernel
theorem dX4_tell_54 : decode cX4_tell 54 = .ok (.invokevirtual 135, 3) := by decide +kernel
theorem dX4_tell_57 : decode cX4_tell 57 = .ok (.istore_n 3, 1) := by decide +kernel
theorem dX4_tell_58 : decode cX4_tell 58 = .ok (.iload_n 2, 1) := by decide +kernel
theorem dX4_tell_59 : decode cX4_tell 59 = .ok (.ifCond .ne 7, 3) := by decide +kernel
theorem dX4_tell_62 : decode cX4_tell 62 = .ok (.iload_n 3, 1) := by decide +kernel
theorem dX4_tell_63 : decode cX4_tell 63 = .ok (.goto 21, 3) := by decide +kernel
theorem dX4_tell_66 : decode cX4_tell 66 = .ok (.iload_n 2, 1) := by decide +kernel
theorem dX4_tell_67 : decode cX4_tell 67 = .ok (.iconst 1, 1) := by decide +kernel
theorem dX4_tell_68 : decode cX4_tell 68 = .ok (.if_icmp .ne 10, 3) := by decide +kernel
theorem dX4_tell_71 : decode cX4_tell 71 = .ok (.iload_n 3, 1) := by decide +kernel
theorem dX4_tell_72 : decode cX4_tell 72 = .ok (.bipush 100, 2) := by decide +kernel
theorem dX4_tell_74 : decode cX4_tell 74 = .ok (.iadd, 1) := by decide +kernel
theorem dX4_tell_75 : decode cX4_tell 75 = .ok (.goto 9, 3) := by decide +kernel
theorem dX4_tell_78 : decode cX4_tell 78 = .ok (.iconst 2, 1) := by decide +kernel
theorem dX4_tell_79 : decode cX4_tell 79 = .ok (.iload_n 3, 1) := by decide +kernel
theorem dX4_tell_80 : decode cX4_tell 80 = .ok (.imul, 1) := by decide +kernel
theorem dX4_tell_81 : decode cX4_tell 81 = .ok (.bipush 100, 2) := by decide +kernel
theorem dX4_tell_83 : decode cX4_tell 83 = .ok (.iadd, 1) := by decide +kernel
theorem dX4_tell_84 : decode cX4_tell 84 = .ok (.ireturn, 1) := by decide +kernel
set_option maxRecDepth 20000 in
theorem ggX4_stop_X4_noSign : GoodIn wsX4_stop wsX4_noSign := goodIn_r _ [6, 7, 8, 9, 5, 10, 16, 17, 18, 19, 20, 21, 22, 23, 24, 25, 26, 27, 28, 29, 30, 31, 32, 33, 34, 35, 36, 37, 38, 39, 40] (by decide +kernel) (by decide +kernel)
set_option maxRecDepth 20000 in
theorem gX4_stop_X4_noSign : GoodIn wsX4_stop (wsV RX4 129 RX4 yX4_noSign wsX4_noSign) := goodIn_app (goodIn_of _ (by decide +kernel)) ggX4_stop_X4_noSign
set_option maxRecDepth 20000 in
theorem ggX4_stop_X4_traced : GoodIn wsX4_stop wsX4_traced := goodIn_r _ [14, 15, 16, 17, 18, 19, 20, 21, 22, 23, 24, 25, 26, 27, 28, 29, 30, 31, 32, 33, 34, 35, 36, 37, 38, 39, 40] (by decide +kernel) (by decide +kernel)
set_option maxRecDepth 20000 in
theorem gX4_stop_X4_traced : GoodIn wsX4_stop (wsV RX4 214 RX4 yX4_traced wsX4_traced) := goodIn_app (goodIn_of _ (by decide +kernel)) ggX4_stop_X4_traced
theorem dX4_stop_0 : decode cX4_stop 0 = .ok (.aload_n 0, 1) := by decide +kernel
theorem dX4_stop_1 : decode cX4_stop 1 = .ok (.iload_n 1, 1) := by decide +kernel
theorem dX4_stop_2 : decode cX4_stop 2 = .ok (.invokevirtual 129, 3) := by decide +kernel
theorem dX4_stop_5 : decode cX4_stop 5 = .ok (.ifCond .eq 5, 3) := by decide +kernel
theorem dX4_stop_8 : decode cX4_stop 8 = .ok (.iconst (-1), 1) := by decide +kernel
theorem dX4_stop_9 : decode cX4_stop 9 = .ok (.ireturn, 1) := by decide +kernel
theorem dX4_stop_10 : decode cX4_stop 10 = .ok (.aload_n 0, 1) := by decide +kernel
theorem dX4_stop_11 : decode cX4_stop 11 = .ok (.aload_n 0, 1) := by decide +kernel
theorem dX4_stop_12 : decode cX4_stop 12 = .ok (.getfield 7, 3) := by decide +kernel
theorem dX4_stop_15 : decode cX4_stop 15 = .ok (.iload_n 1, 1) := by decide +kernel
theorem dX4_stop_16 : decode cX4_stop 16 = .ok (.iaload, 1) := by decide +kernel
theorem dX4_stop_17 : decode cX4_stop 17 = .ok (.iconst 2, 1) := by decide +kernel
theorem dX4_stop_18 : decode cX4_stop 18 = .ok (.if_icmp .ne 7, 3) := by decide +kernel
theorem dX4_stop_21 : decode cX4_stop 21 = .ok (.iconst 5, 1) := by decide +kernel
theorem dX4_stop_22 : decode cX4_stop 22 = .ok (.goto 4, 3) := by decide +kernel
theorem dX4_stop_25 : decode cX4_stop 25 = .ok (.iconst 4, 1) := by decide +kernel
theorem dX4_stop_26 : decode cX4_stop 26 = .ok (.invokevirtual 214, 3) := by decide +kernel
theorem dX4_stop_29 : decode cX4_stop 29 = .ok (.aload_n 0, 1) := by decide +kernel
theorem dX4_stop_30 : decode cX4_stop 30 = .ok (.getfield 7, 3) := by decide +kernel
theorem dX4_stop_33 : decode cX4_stop 33 = .ok (.iload_n 1, 1) := by decide +kernel
theorem dX4_stop_34 : decode cX4_stop 34 = .ok (.iaload, 1) := by decide +kernel
theorem dX4_stop_35 : decode cX4_stop 35 = .ok (.iconst 2, 1) := by decide +kernel
theorem dX4_stop_36 : decode cX4_stop 36 = .ok (.if_icmp .ne 8, 3) := by decide +kernel
theorem dX4_stop_39 : decode cX4_stop 39 = .ok (.bipush 90, 2) := by decide +kernel
theorem dX4_stop_41 : decode cX4_stop 41 = .ok (.goto 4, 3) := by decide +kernel
theorem dX4_stop_44 : decode cX4_stop 44 = .ok (.iload_n 1, 1) := by decide +kernel
theorem dX4_stop_45 : decode cX4_stop 45 = .ok (.ireturn, 1) := by decide +kernel
set_option maxRecDepth 20000 in
theorem ggX4_as_X4_noSign : GoodIn wsX4_as wsX4_noSign := goodIn_r _ [7, 8, 9, 10, 6, 11, 21, 22, 23, 24, 25, 26, 27, 28, 29, 30, 31, 32, 33, 34, 35, 36, 37, 38, 39, 40, 41, 42, 43, 44, 45] (by decide +kernel) (by decide +kernel)
set_option maxRecDepth 20000 in
theorem gX4_as_X4_noSign : GoodIn wsX4_as (wsV RX4 129 RX4 yX4_noSign wsX4_noSign) := goodIn_app (goodIn_of _ (by decide +kernel)) ggX4_as_X4_noSign
set_option maxRecDepth 20000 in
theorem ggX4_as_X4_refused : GoodIn wsX4_as wsX4_refused := goodIn_r _ [15, 16, 21, 22, 23, 24, 25, 26, 27, 28, 29, 30, 31, 32, 33, 34, 35, 36, 37, 38, 39, 40, 41, 42, 43, 44, 45] (by decide +kernel) (by decide +kernel)
set_option maxRecDepth 20000 in
theorem gX4_as_X4_refused : GoodIn wsX4_as (wsV RX4 75 RX4 yX4_refused wsX4_refused) := goodIn_app (goodIn_of _ (by decide +kernel)) ggX4_as_X4_refused
set_option maxRecDepth 20000 in
theorem ggX4_as_X4_in : GoodIn wsX4_as wsX4_in := goodIn_r _ [11] (by decide +kernel) (by decide +kernel)
set_option maxRecDepth 20000 in
theorem gX4_as_X4_in : GoodIn wsX4_as (va_wsS RX4 81 yX4_in wsX4_in) := goodIn_app (goodIn_of _ (by decide +kernel)) ggX4_as_X4_in
set_option maxRecDepth 20000 in
theorem ggX4_as_X4_failed : GoodIn wsX4_as wsX4_failed := goodIn_r _ [20, 16, 21, 22, 23, 24, 25, 26, 27, 28, 29, 30, 31, 32, 33, 34, 35, 36, 37, 38, 39, 40, 41, 42, 43, 44, 45] (by decide +kernel) (by decide +kernel)
set_option maxRecDepth 20000 in
theorem gX4_as_X4_failed : GoodIn wsX4_as (wsV RX4 85 RX4 yX4_failed wsX4_failed) := goodIn_app (goodIn_of _ (by decide +kernel)) ggX4_as_X4_failed
theorem dX4_as_0 : decode cX4_as 0 = .ok (.aload_n 0, 1) := by decide +kernel
theorem dX4_as_1 : decode cX4_as 1 = .ok (.iload_n 1, 1) := by decide +kernel
theorem dX4_as_2 : decode cX4_as 2 = .ok (.invokevirtual 129, 3) := by decide +kernel
theorem dX4_as_5 : decode cX4_as 5 = .ok (.ifCond .eq 9, 3) := by decide +kernel
theorem dX4_as_8 : decode cX4_as 8 = .ok (.aload_n 0, 1) := by decide +kernel
theorem dX4_as_9 : decode cX4_as 9 = .ok (.iconst (-1), 1) := by decide +kernel
theorem dX4_as_10 : decode cX4_as 10 = .ok (.invokevirtual 75, 3) := by decide +kernel
theorem dX4_as_13 : decode cX4_as 13 = .ok (.ireturn, 1) := by decide +kernel
theorem dX4_as_14 : decode cX4_as 14 = .ok (.iload_n 2, 1) := by decide +kernel
theorem dX4_as_15 : decode cX4_as 15 = .ok (.i2l, 1) := by decide +kernel
theorem dX4_as_16 : decode cX4_as 16 = .ok (.lconst 0, 1) := by decide +kernel
theorem dX4_as_17 : decode cX4_as 17 = .ok (.ldc2_w 79, 3) := by decide +kernel
theorem dX4_as_20 : decode cX4_as 20 = .ok (.invokestatic 81, 3) := by decide +kernel
theorem dX4_as_23 : decode cX4_as 23 = .ok (.ifCond .ne 10, 3) := by decide +kernel
theorem dX4_as_26 : decode cX4_as 26 = .ok (.aload_n 0, 1) := by decide +kernel
theorem dX4_as_27 : decode cX4_as 27 = .ok (.bipush (-2), 2) := by decide +kernel
theorem dX4_as_29 : decode cX4_as 29 = .ok (.invokevirtual 75, 3) := by decide +kernel
theorem dX4_as_32 : decode cX4_as 32 = .ok (.ireturn, 1) := by decide +kernel
theorem dX4_as_33 : decode cX4_as 33 = .ok (.aload_n 0, 1) := by decide +kernel
theorem dX4_as_34 : decode cX4_as 34 = .ok (.getfield 7, 3) := by decide +kernel
theorem dX4_as_37 : decode cX4_as 37 = .ok (.iload_n 1, 1) := by decide +kernel
theorem dX4_as_38 : decode cX4_as 38 = .ok (.iaload, 1) := by decide +kernel
theorem dX4_as_39 : decode cX4_as 39 = .ok (.iload_n 2, 1) := by decide +kernel
theorem dX4_as_40 : decode cX4_as 40 = .ok (.if_icmp .lt 11, 3) := by decide +kernel
theorem dX4_as_43 : decode cX4_as 43 = .ok (.aload_n 0, 1) := by decide +kernel
theorem dX4_as_44 : decode cX4_as 44 = .ok (.iconst 1, 1) := by decide +kernel
theorem dX4_as_45 : decode cX4_as 45 = .ok (.invokevirtual 75, 3) := by decide +kernel
theorem dX4_as_48 : decode cX4_as 48 = .ok (.goto 8, 3) := by decide +kernel
theorem dX4_as_51 : decode cX4_as 51 = .ok (.aload_n 0, 1) := by decide +kernel
theorem dX4_as_52 : decode cX4_as 52 = .ok (.iconst 2, 1) := by decide +kernel
theorem dX4_as_53 : decode cX4_as 53 = .ok (.invokevirtual 85, 3) := by decide +kernel
theorem dX4_as_56 : decode cX4_as 56 = .ok (.ireturn, 1) := by decide +kernel
theorem dX4_trace_0 : decode cX4_trace 0 = .ok (.aload_n 0, 1) := by decide +kernel
theorem dX4_trace_1 : decode cX4_trace 1 = .ok (.getfield 211, 3) := by decide +kernel
theorem dX4_trace_4 : decode cX4_trace 4 = .ok (.ireturn, 1) := by decide +kernel
theorem dX4_fault_0 : decode cX4_fault 0 = .ok (.aload_n 0, 1) := by decide +kernel
theorem dX4_fault_1 : decode cX4_fault 1 = .ok (.getfield 63, 3) := by decide +kernel
theorem dX4_fault_4 : decode cX4_fault 4 = .ok (.ireturn, 1) := by decide +kernel
theorem dX4_many_0 : decode cX4_many 0 = .ok (.iload_n 1, 1) := by decide +kernel
theorem dX4_many_1 : decode cX4_many 1 = .ok (.tableswitch 51 0 3 #[31, 36, 41, 46], 31) := by decide +kernel
theorem dX4_many_32 : decode cX4_many 32 = .ok (.aload_n 0, 1) := by decide +kernel
theorem dX4_many_33 : decode cX4_many 33 = .ok (.getfield 92, 3) := by decide +kernel
theorem dX4_many_36 : decode cX4_many 36 = .ok (.ireturn, 1) := by decide +kernel
theorem dX4_many_37 : decode cX4_many 37 = .ok (.aload_n 0, 1) := by decide +kernel
theorem dX4_many_38 : decode cX4_many 38 = .ok (.getfield 120, 3) := by decide +kernel
theorem dX4_many_41 : decode cX4_many 41 = .ok (.ireturn, 1) := by decide +kernel
theorem dX4_many_42 : decode cX4_many 42 = .ok (.aload_n 0, 1) := by decide +kernel
theorem dX4_many_43 : decode cX4_many 43 = .ok (.getfield 123, 3) := by decide +kernel
theorem dX4_many_46 : decode cX4_many 46 = .ok (.ireturn, 1) := by decide +kernel
theorem dX4_many_47 : decode cX4_many 47 = .ok (.aload_n 0, 1) := by decide +kernel
theorem dX4_many_48 : decode cX4_many 48 = .ok (.getfield 126, 3) := by decide +kernel
theorem dX4_many_51 : decode cX4_many 51 = .ok (.ireturn, 1) := by decide +kernel
theorem dX4_many_52 : decode cX4_many 52 = .ok (.bipush (-2), 2) := by decide +kernel
theorem dX4_many_54 : decode cX4_many 54 = .ok (.ireturn, 1) := by decide +kernel

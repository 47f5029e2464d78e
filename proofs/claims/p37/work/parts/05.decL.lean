theorem dJ6_bitCount_0f7a4_0 : decode cJ6_bitCount_0f7a4 0 = .ok (.iload_n 0, 1) := by decide +kernel
theorem dJ6_bitCount_0f7a4_1 : decode cJ6_bitCount_0f7a4 1 = .ok (.iload_n 0, 1) := by decide +kernel
theorem dJ6_bitCount_0f7a4_2 : decode cJ6_bitCount_0f7a4 2 = .ok (.iconst 1, 1) := by decide +kernel
theorem dJ6_bitCount_0f7a4_3 : decode cJ6_bitCount_0f7a4 3 = .ok (.iushr, 1) := by decide +kernel
theorem dJ6_bitCount_0f7a4_4 : decode cJ6_bitCount_0f7a4 4 = .ok (.ldc_w 265, 3) := by decide +kernel
theorem dJ6_bitCount_0f7a4_7 : decode cJ6_bitCount_0f7a4 7 = .ok (.iand, 1) := by decide +kernel
theorem dJ6_bitCount_0f7a4_8 : decode cJ6_bitCount_0f7a4 8 = .ok (.isub, 1) := by decide +kernel
theorem dJ6_bitCount_0f7a4_9 : decode cJ6_bitCount_0f7a4 9 = .ok (.istore_n 0, 1) := by decide +kernel
theorem dJ6_bitCount_0f7a4_10 : decode cJ6_bitCount_0f7a4 10 = .ok (.iload_n 0, 1) := by decide +kernel
theorem dJ6_bitCount_0f7a4_11 : decode cJ6_bitCount_0f7a4 11 = .ok (.ldc_w 266, 3) := by decide +kernel
theorem dJ6_bitCount_0f7a4_14 : decode cJ6_bitCount_0f7a4 14 = .ok (.iand, 1) := by decide +kernel
theorem dJ6_bitCount_0f7a4_15 : decode cJ6_bitCount_0f7a4 15 = .ok (.iload_n 0, 1) := by decide +kernel
theorem dJ6_bitCount_0f7a4_16 : decode cJ6_bitCount_0f7a4 16 = .ok (.iconst 2, 1) := by decide +kernel
theorem dJ6_bitCount_0f7a4_17 : decode cJ6_bitCount_0f7a4 17 = .ok (.iushr, 1) := by decide +kernel
theorem dJ6_bitCount_0f7a4_18 : decode cJ6_bitCount_0f7a4 18 = .ok (.ldc_w 266, 3) := by decide +kernel
theorem dJ6_bitCount_0f7a4_21 : decode cJ6_bitCount_0f7a4 21 = .ok (.iand, 1) := by decide +kernel
theorem dJ6_bitCount_0f7a4_22 : decode cJ6_bitCount_0f7a4 22 = .ok (.iadd, 1) := by decide +kernel
theorem dJ6_bitCount_0f7a4_23 : decode cJ6_bitCount_0f7a4 23 = .ok (.istore_n 0, 1) := by decide +kernel
theorem dJ6_bitCount_0f7a4_24 : decode cJ6_bitCount_0f7a4 24 = .ok (.iload_n 0, 1) := by decide +kernel
theorem dJ6_bitCount_0f7a4_25 : decode cJ6_bitCount_0f7a4 25 = .ok (.iload_n 0, 1) := by decide +kernel
theorem dJ6_bitCount_0f7a4_26 : decode cJ6_bitCount_0f7a4 26 = .ok (.iconst 4, 1) := by decide +kernel
theorem dJ6_bitCount_0f7a4_27 : decode cJ6_bitCount_0f7a4 27 = .ok (.iushr, 1) := by decide +kernel
theorem dJ6_bitCount_0f7a4_28 : decode cJ6_bitCount_0f7a4 28 = .ok (.iadd, 1) := by decide +kernel
theorem dJ6_bitCount_0f7a4_29 : decode cJ6_bitCount_0f7a4 29 = .ok (.ldc_w 267, 3) := by decide +kernel
theorem dJ6_bitCount_0f7a4_32 : decode cJ6_bitCount_0f7a4 32 = .ok (.iand, 1) := by decide +kernel
theorem dJ6_bitCount_0f7a4_33 : decode cJ6_bitCount_0f7a4 33 = .ok (.istore_n 0, 1) := by decide +kernel
theorem dJ6_bitCount_0f7a4_34 : decode cJ6_bitCount_0f7a4 34 = .ok (.iload_n 0, 1) := by decide +kernel
theorem dJ6_bitCount_0f7a4_35 : decode cJ6_bitCount_0f7a4 35 = .ok (.iload_n 0, 1) := by decide +kernel
theorem dJ6_bitCount_0f7a4_36 : decode cJ6_bitCount_0f7a4 36 = .ok (.bipush 8, 2) := by decide +kernel
theorem dJ6_bitCount_0f7a4_38 : decode cJ6_bitCount_0f7a4 38 = .ok (.iushr, 1) := by decide +kernel
theorem dJ6_bitCount_0f7a4_39 : decode cJ6_bitCount_0f7a4 39 = .ok (.iadd, 1) := by decide +kernel
theorem dJ6_bitCount_0f7a4_40 : decode cJ6_bitCount_0f7a4 40 = .ok (.istore_n 0, 1) := by decide +kernel
theorem dJ6_bitCount_0f7a4_41 : decode cJ6_bitCount_0f7a4 41 = .ok (.iload_n 0, 1) := by decide +kernel
theorem dJ6_bitCount_0f7a4_42 : decode cJ6_bitCount_0f7a4 42 = .ok (.iload_n 0, 1) := by decide +kernel
theorem dJ6_bitCount_0f7a4_43 : decode cJ6_bitCount_0f7a4 43 = .ok (.bipush 16, 2) := by decide +kernel
theorem dJ6_bitCount_0f7a4_45 : decode cJ6_bitCount_0f7a4 45 = .ok (.iushr, 1) := by decide +kernel
theorem dJ6_bitCount_0f7a4_46 : decode cJ6_bitCount_0f7a4 46 = .ok (.iadd, 1) := by decide +kernel
theorem dJ6_bitCount_0f7a4_47 : decode cJ6_bitCount_0f7a4 47 = .ok (.istore_n 0, 1) := by decide +kernel
theorem dJ6_bitCount_0f7a4_48 : decode cJ6_bitCount_0f7a4 48 = .ok (.iload_n 0, 1) := by decide +kernel
theorem dJ6_bitCount_0f7a4_49 : decode cJ6_bitCount_0f7a4 49 = .ok (.bipush 63, 2) := by decide +kernel
theorem dJ6_bitCount_0f7a4_51 : decode cJ6_bitCount_0f7a4 51 = .ok (.iand, 1) := by decide +kernel
theorem dJ6_bitCount_0f7a4_52 : decode cJ6_bitCount_0f7a4 52 = .ok (.ireturn, 1) := by decide +kernel
theorem dJ9_abs_0f7a4_0 : decode cJ9_abs_0f7a4 0 = .ok (.iload_n 0, 1) := by decide +kernel
theorem dJ9_abs_0f7a4_1 : decode cJ9_abs_0f7a4 1 = .ok (.ifCond .ge 8, 3) := by decide +kernel
theorem dJ9_abs_0f7a4_4 : decode cJ9_abs_0f7a4 4 = .ok (.iload_n 0, 1) := by decide +kernel
theorem dJ9_abs_0f7a4_5 : decode cJ9_abs_0f7a4 5 = .ok (.ineg, 1) := by decide +kernel
theorem dJ9_abs_0f7a4_6 : decode cJ9_abs_0f7a4 6 = .ok (.goto 4, 3) := by decide +kernel
theorem dJ9_abs_0f7a4_9 : decode cJ9_abs_0f7a4 9 = .ok (.iload_n 0, 1) := by decide +kernel
theorem dJ9_abs_0f7a4_10 : decode cJ9_abs_0f7a4 10 = .ok (.ireturn, 1) := by decide +kernel
theorem dJ9_min_7cf53_0 : decode cJ9_min_7cf53 0 = .ok (.iload_n 0, 1) := by decide +kernel
theorem dJ9_min_7cf53_1 : decode cJ9_min_7cf53 1 = .ok (.iload_n 1, 1) := by decide +kernel
theorem dJ9_min_7cf53_2 : decode cJ9_min_7cf53 2 = .ok (.if_icmp .gt 7, 3) := by decide +kernel
theorem dJ9_min_7cf53_5 : decode cJ9_min_7cf53 5 = .ok (.iload_n 0, 1) := by decide +kernel
theorem dJ9_min_7cf53_6 : decode cJ9_min_7cf53 6 = .ok (.goto 4, 3) := by decide +kernel
theorem dJ9_min_7cf53_9 : decode cJ9_min_7cf53 9 = .ok (.iload_n 1, 1) := by decide +kernel
theorem dJ9_min_7cf53_10 : decode cJ9_min_7cf53 10 = .ok (.ireturn, 1) := by decide +kernel
theorem dJ7_fill_53178_0 : decode cJ7_fill_53178 0 = .ok (.iconst 0, 1) := by decide +kernel
theorem dJ7_fill_53178_1 : decode cJ7_fill_53178 1 = .ok (.istore_n 2, 1) := by decide +kernel
theorem dJ7_fill_53178_2 : decode cJ7_fill_53178 2 = .ok (.aload_n 0, 1) := by decide +kernel
theorem dJ7_fill_53178_3 : decode cJ7_fill_53178 3 = .ok (.arraylength, 1) := by decide +kernel
theorem dJ7_fill_53178_4 : decode cJ7_fill_53178 4 = .ok (.istore_n 3, 1) := by decide +kernel
theorem dJ7_fill_53178_5 : decode cJ7_fill_53178 5 = .ok (.iload_n 2, 1) := by decide +kernel
theorem dJ7_fill_53178_6 : decode cJ7_fill_53178 6 = .ok (.iload_n 3, 1) := by decide +kernel
theorem dJ7_fill_53178_7 : decode cJ7_fill_53178 7 = .ok (.if_icmp .ge 13, 3) := by decide +kernel
theorem dJ7_fill_53178_10 : decode cJ7_fill_53178 10 = .ok (.aload_n 0, 1) := by decide +kernel
theorem dJ7_fill_53178_11 : decode cJ7_fill_53178 11 = .ok (.iload_n 2, 1) := by decide +kernel
theorem dJ7_fill_53178_12 : decode cJ7_fill_53178 12 = .ok (.iload_n 1, 1) := by decide +kernel
theorem dJ7_fill_53178_13 : decode cJ7_fill_53178 13 = .ok (.iastore, 1) := by decide +kernel
theorem dJ7_fill_53178_14 : decode cJ7_fill_53178 14 = .ok (.iinc 2 1, 3) := by decide +kernel
theorem dJ7_fill_53178_17 : decode cJ7_fill_53178 17 = .ok (.goto (-12), 3) := by decide +kernel
theorem dJ7_fill_53178_20 : decode cJ7_fill_53178 20 = .ok (.return_, 1) := by decide +kernel
theorem dL_cell_0 : decode cL_cell 0 = .ok (.iload_n 1, 1) := by decide +kernel
theorem dL_cell_1 : decode cL_cell 1 = .ok (.aload_n 0, 1) := by decide +kernel
theorem dL_cell_2 : decode cL_cell 2 = .ok (.arraylength, 1) := by decide +kernel
theorem dL_cell_3 : decode cL_cell 3 = .ok (.if_icmp .ge 9, 3) := by decide +kernel
theorem dL_cell_6 : decode cL_cell 6 = .ok (.aload_n 0, 1) := by decide +kernel
theorem dL_cell_7 : decode cL_cell 7 = .ok (.iload_n 1, 1) := by decide +kernel
theorem dL_cell_8 : decode cL_cell 8 = .ok (.iaload, 1) := by decide +kernel
theorem dL_cell_9 : decode cL_cell 9 = .ok (.goto 11, 3) := by decide +kernel
theorem dL_cell_12 : decode cL_cell 12 = .ok (.ldc 7, 2) := by decide +kernel
theorem dL_cell_14 : decode cL_cell 14 = .ok (.iload_n 1, 1) := by decide +kernel
theorem dL_cell_15 : decode cL_cell 15 = .ok (.imul, 1) := by decide +kernel
theorem dL_cell_16 : decode cL_cell 16 = .ok (.sipush 977, 3) := by decide +kernel
theorem dL_cell_19 : decode cL_cell 19 = .ok (.iadd, 1) := by decide +kernel
theorem dL_cell_20 : decode cL_cell 20 = .ok (.ireturn, 1) := by decide +kernel
theorem dL_low_0 : decode cL_low 0 = .ok (.iload_n 0, 1) := by decide +kernel
theorem dL_low_1 : decode cL_low 1 = .ok (.ldc 8, 2) := by decide +kernel
theorem dL_low_3 : decode cL_low 3 = .ok (.iand, 1) := by decide +kernel
theorem dL_low_4 : decode cL_low 4 = .ok (.iload_n 1, 1) := by decide +kernel
theorem dL_low_5 : decode cL_low 5 = .ok (.irem, 1) := by decide +kernel
theorem dL_low_6 : decode cL_low 6 = .ok (.ireturn, 1) := by decide +kernel
set_option maxRecDepth 20000 in
theorem ggL_lay_L_cell : GoodIn wsL_lay wsL_cell := goodIn_r _ [4, 5] (by decide +kernel) (by decide +kernel)
set_option maxRecDepth 20000 in
theorem gL_lay_L_cell : GoodIn wsL_lay (va_wsS RL 9 yL_cell wsL_cell) := goodIn_app (goodIn_of _ (by decide +kernel)) ggL_lay_L_cell
set_option maxRecDepth 20000 in
theorem ggL_lay_L_low : GoodIn wsL_lay wsL_low := goodIn_r _ [8, 9] (by decide +kernel) (by decide +kernel)
set_option maxRecDepth 20000 in
theorem gL_lay_L_low : GoodIn wsL_lay (va_wsS RL 15 yL_low wsL_low) := goodIn_app (goodIn_of _ (by decide +kernel)) ggL_lay_L_low
set_option maxRecDepth 20000 in
theorem ggL_lay_X3_put : GoodIn wsL_lay wsX3_put := goodIn_r _ [14, 15, 16, 17, 18, 13, 19, 20, 21, 22, 23, 24, 25, 26, 27, 28, 29, 30, 31, 32, 33, 34, 35, 36, 82, 83, 84, 85, 86, 87, 88, 89, 90, 91, 92, 93, 94, 95, 96, 97, 98, 99] (by decide +kernel) (by decide +kernel)
set_option maxRecDepth 20000 in
theorem gL_lay_X3_put : GoodIn wsL_lay (wsV RL 19 RX3 yX3_put wsX3_put) := goodIn_app (goodIn_of _ (by decide +kernel)) ggL_lay_X3_put
set_option maxRecDepth 20000 in
theorem ggL_lay_L_set : GoodIn wsL_lay wsL_set := goodIn_r _ [39] (by decide +kernel) (by decide +kernel)
set_option maxRecDepth 20000 in
theorem gL_lay_L_set : GoodIn wsL_lay (va_wsS RL 25 yL_set wsL_set) := goodIn_app (goodIn_of _ (by decide +kernel)) ggL_lay_L_set
set_option maxRecDepth 20000 in
theorem ggL_lay_L_get : GoodIn wsL_lay wsL_get := goodIn_r _ [42] (by decide +kernel) (by decide +kernel)
set_option maxRecDepth 20000 in
theorem gL_lay_L_get : GoodIn wsL_lay (va_wsS RL 29 yL_get wsL_get) := goodIn_app (goodIn_of _ (by decide +kernel)) ggL_lay_L_get
set_option maxRecDepth 20000 in
theorem ggL_lay_X3_register : GoodIn wsL_lay wsX3_register := goodIn_r _ [46, 15, 47, 48, 49, 50, 13, 51, 16, 17, 18, 19, 20, 21, 22, 23, 52, 53, 54, 24, 25, 26, 27, 28, 29, 30, 31, 32, 55, 56, 57, 58, 59, 60, 61, 62, 63, 64, 65, 66, 67, 68, 69, 70, 71, 72, 73, 74, 75, 76, 77, 78, 79, 80, 81, 82, 83, 84, 85, 86, 87, 88, 89, 90, 91, 92, 93, 94, 95, 96, 97, 98, 99, 100, 101, 102] (by decide +kernel) (by decide +kernel)
set_option maxRecDepth 20000 in
theorem gL_lay_X3_register : GoodIn wsL_lay (wsV RL 33 RX3 yX3_register wsX3_register) := goodIn_app (goodIn_of _ (by decide +kernel)) ggL_lay_X3_register
theorem dL_lay_0 : decode cL_lay 0 = .ok (.aload 4, 2) := by decide +kernel
theorem dL_lay_2 : decode cL_lay 2 = .ok (.iload 5, 2) := by decide +kernel
theorem dL_lay_4 : decode cL_lay 4 = .ok (.invokestatic 9, 3) := by decide +kernel
theorem dL_lay_7 : decode cL_lay 7 = .ok (.istore 6, 2) := by decide +kernel
theorem dL_lay_9 : decode cL_lay 9 = .ok (.aload_n 1, 1) := by decide +kernel
theorem dL_lay_10 : decode cL_lay 10 = .ok (.iconst 0, 1) := by decide +kernel
theorem dL_lay_11 : decode cL_lay 11 = .ok (.iconst 2, 1) := by decide +kernel
theorem dL_lay_12 : decode cL_lay 12 = .ok (.iload 6, 2) := by decide +kernel
theorem dL_lay_14 : decode cL_lay 14 = .ok (.bipush 7, 2) := by decide +kernel
theorem dL_lay_16 : decode cL_lay 16 = .ok (.invokestatic 15, 3) := by decide +kernel
theorem dL_lay_19 : decode cL_lay 19 = .ok (.iadd, 1) := by decide +kernel
theorem dL_lay_20 : decode cL_lay 20 = .ok (.iastore, 1) := by decide +kernel
theorem dL_lay_21 : decode cL_lay 21 = .ok (.aload_n 1, 1) := by decide +kernel
theorem dL_lay_22 : decode cL_lay 22 = .ok (.iconst 1, 1) := by decide +kernel
theorem dL_lay_23 : decode cL_lay 23 = .ok (.iconst 0, 1) := by decide +kernel
theorem dL_lay_24 : decode cL_lay 24 = .ok (.iastore, 1) := by decide +kernel
theorem dL_lay_25 : decode cL_lay 25 = .ok (.aload_n 1, 1) := by decide +kernel
theorem dL_lay_26 : decode cL_lay 26 = .ok (.iconst 2, 1) := by decide +kernel
theorem dL_lay_27 : decode cL_lay 27 = .ok (.bipush 40, 2) := by decide +kernel
theorem dL_lay_29 : decode cL_lay 29 = .ok (.iastore, 1) := by decide +kernel
theorem dL_lay_30 : decode cL_lay 30 = .ok (.iconst 1, 1) := by decide +kernel
theorem dL_lay_31 : decode cL_lay 31 = .ok (.istore 7, 2) := by decide +kernel
theorem dL_lay_33 : decode cL_lay 33 = .ok (.iconst 0, 1) := by decide +kernel
theorem dL_lay_34 : decode cL_lay 34 = .ok (.istore 8, 2) := by decide +kernel
theorem dL_lay_36 : decode cL_lay 36 = .ok (.iconst 0, 1) := by decide +kernel
theorem dL_lay_37 : decode cL_lay 37 = .ok (.istore 9, 2) := by decide +kernel
theorem dL_lay_39 : decode cL_lay 39 = .ok (.iload 9, 2) := by decide +kernel
theorem dL_lay_41 : decode cL_lay 41 = .ok (.aload_n 1, 1) := by decide +kernel
theorem dL_lay_42 : decode cL_lay 42 = .ok (.iconst 0, 1) := by decide +kernel
theorem dL_lay_43 : decode cL_lay 43 = .ok (.iaload, 1) := by decide +kernel
theorem dL_lay_44 : decode cL_lay 44 = .ok (.if_icmp .ge 274, 3) := by decide +kernel
theorem dL_lay_47 : decode cL_lay 47 = .ok (.aload 4, 2) := by decide +kernel
theorem dL_lay_49 : decode cL_lay 49 = .ok (.iload 5, 2) := by decide +kernel
theorem dL_lay_51 : decode cL_lay 51 = .ok (.iconst 1, 1) := by decide +kernel
theorem dL_lay_52 : decode cL_lay 52 = .ok (.iadd, 1) := by decide +kernel
theorem dL_lay_53 : decode cL_lay 53 = .ok (.iload 9, 2) := by decide +kernel
theorem dL_lay_55 : decode cL_lay 55 = .ok (.iadd, 1) := by decide +kernel
theorem dL_lay_56 : decode cL_lay 56 = .ok (.invokestatic 9, 3) := by decide +kernel
theorem dL_lay_59 : decode cL_lay 59 = .ok (.istore 10, 2) := by decide +kernel
theorem dL_lay_61 : decode cL_lay 61 = .ok (.iload 9, 2) := by decide +kernel
theorem dL_lay_63 : decode cL_lay 63 = .ok (.ifCond .le 31, 3) := by decide +kernel
theorem dL_lay_66 : decode cL_lay 66 = .ok (.iload 7, 2) := by decide +kernel
theorem dL_lay_68 : decode cL_lay 68 = .ok (.ifCond .eq 20, 3) := by decide +kernel
theorem dL_lay_71 : decode cL_lay 71 = .ok (.aload_n 0, 1) := by decide +kernel
theorem dL_lay_72 : decode cL_lay 72 = .ok (.iconst 0, 1) := by decide +kernel
theorem dL_lay_73 : decode cL_lay 73 = .ok (.iload 8, 2) := by decide +kernel
theorem dL_lay_75 : decode cL_lay 75 = .ok (.bipush 59, 2) := by decide +kernel
theorem dL_lay_77 : decode cL_lay 77 = .ok (.invokevirtual 19, 3) := by decide +kernel
theorem dL_lay_80 : decode cL_lay 80 = .ok (.iconst 1, 1) := by decide +kernel
theorem dL_lay_81 : decode cL_lay 81 = .ok (.if_icmp .ne 7, 3) := by decide +kernel
theorem dL_lay_84 : decode cL_lay 84 = .ok (.iconst 1, 1) := by decide +kernel
theorem dL_lay_85 : decode cL_lay 85 = .ok (.goto 4, 3) := by decide +kernel
theorem dL_lay_88 : decode cL_lay 88 = .ok (.iconst 0, 1) := by decide +kernel
theorem dL_lay_89 : decode cL_lay 89 = .ok (.istore 7, 2) := by decide +kernel
theorem dL_lay_91 : decode cL_lay 91 = .ok (.iinc 8 1, 3) := by decide +kernel
theorem dL_lay_94 : decode cL_lay 94 = .ok (.iload 10, 2) := by decide +kernel
theorem dL_lay_96 : decode cL_lay 96 = .ok (.iconst 3, 1) := by decide +kernel
theorem dL_lay_97 : decode cL_lay 97 = .ok (.invokestatic 15, 3) := by decide +kernel
theorem dL_lay_100 : decode cL_lay 100 = .ok (.istore 11, 2) := by decide +kernel
theorem dL_lay_102 : decode cL_lay 102 = .ok (.aload_n 2, 1) := by decide +kernel
theorem dL_lay_103 : decode cL_lay 103 = .ok (.aload_n 3, 1) := by decide +kernel
theorem dL_lay_104 : decode cL_lay 104 = .ok (.iload 9, 2) := by decide +kernel
theorem dL_lay_106 : decode cL_lay 106 = .ok (.iconst 0, 1) := by decide +kernel
theorem dL_lay_107 : decode cL_lay 107 = .ok (.iload 11, 2) := by decide +kernel
theorem dL_lay_109 : decode cL_lay 109 = .ok (.invokestatic 25, 3) := by decide +kernel
theorem dL_lay_112 : decode cL_lay 112 = .ok (.iload 7, 2) := by decide +kernel
theorem dL_lay_114 : decode cL_lay 114 = .ok (.ifCond .eq 41, 3) := by decide +kernel
theorem dL_lay_117 : decode cL_lay 117 = .ok (.aload_n 0, 1) := by decide +kernel
theorem dL_lay_118 : decode cL_lay 118 = .ok (.iconst 0, 1) := by decide +kernel
theorem dL_lay_119 : decode cL_lay 119 = .ok (.iload 8, 2) := by decide +kernel
theorem dL_lay_121 : decode cL_lay 121 = .ok (.iload 11, 2) := by decide +kernel
theorem dL_lay_123 : decode cL_lay 123 = .ok (.ifCond .ne 8, 3) := by decide +kernel
theorem dL_lay_126 : decode cL_lay 126 = .ok (.bipush 112, 2) := by decide +kernel
theorem dL_lay_128 : decode cL_lay 128 = .ok (.goto 16, 3) := by decide +kernel
theorem dL_lay_131 : decode cL_lay 131 = .ok (.iload 11, 2) := by decide +kernel
theorem dL_lay_133 : decode cL_lay 133 = .ok (.iconst 1, 1) := by decide +kernel
theorem dL_lay_134 : decode cL_lay 134 = .ok (.if_icmp .ne 8, 3) := by decide +kernel
theorem dL_lay_137 : decode cL_lay 137 = .ok (.bipush 102, 2) := by decide +kernel
theorem dL_lay_139 : decode cL_lay 139 = .ok (.goto 5, 3) := by decide +kernel
theorem dL_lay_142 : decode cL_lay 142 = .ok (.bipush 115, 2) := by decide +kernel
theorem dL_lay_144 : decode cL_lay 144 = .ok (.invokevirtual 19, 3) := by decide +kernel
theorem dL_lay_147 : decode cL_lay 147 = .ok (.iconst 1, 1) := by decide +kernel
theorem dL_lay_148 : decode cL_lay 148 = .ok (.if_icmp .ne 7, 3) := by decide +kernel
theorem dL_lay_151 : decode cL_lay 151 = .ok (.iconst 1, 1) := by decide +kernel
theorem dL_lay_152 : decode cL_lay 152 = .ok (.goto 4, 3) := by decide +kernel
theorem dL_lay_155 : decode cL_lay 155 = .ok (.iconst 0, 1) := by decide +kernel
theorem dL_lay_156 : decode cL_lay 156 = .ok (.istore 7, 2) := by decide +kernel
theorem dL_lay_158 : decode cL_lay 158 = .ok (.iinc 8 1, 3) := by decide +kernel
theorem dL_lay_161 : decode cL_lay 161 = .ok (.iconst 0, 1) := by decide +kernel
theorem dL_lay_162 : decode cL_lay 162 = .ok (.istore 12, 2) := by decide +kernel
theorem dL_lay_164 : decode cL_lay 164 = .ok (.iload 12, 2) := by decide +kernel
theorem dL_lay_166 : decode cL_lay 166 = .ok (.bipush 9, 2) := by decide +kernel
theorem dL_lay_168 : decode cL_lay 168 = .ok (.if_icmp .ge 144, 3) := by decide +kernel
theorem dL_lay_171 : decode cL_lay 171 = .ok (.aload_n 1, 1) := by decide +kernel
theorem dL_lay_172 : decode cL_lay 172 = .ok (.iconst 3, 1) := by decide +kernel
theorem dL_lay_173 : decode cL_lay 173 = .ok (.iload 12, 2) := by decide +kernel
theorem dL_lay_175 : decode cL_lay 175 = .ok (.iadd, 1) := by decide +kernel
theorem dL_lay_176 : decode cL_lay 176 = .ok (.iconst 5, 1) := by decide +kernel
theorem dL_lay_177 : decode cL_lay 177 = .ok (.iastore, 1) := by decide +kernel
theorem dL_lay_178 : decode cL_lay 178 = .ok (.iload 10, 2) := by decide +kernel
theorem dL_lay_180 : decode cL_lay 180 = .ok (.iload 12, 2) := by decide +kernel
theorem dL_lay_182 : decode cL_lay 182 = .ok (.ishr, 1) := by decide +kernel
theorem dL_lay_183 : decode cL_lay 183 = .ok (.bipush 7, 2) := by decide +kernel
theorem dL_lay_185 : decode cL_lay 185 = .ok (.iand, 1) := by decide +kernel
theorem dL_lay_186 : decode cL_lay 186 = .ok (.iconst 4, 1) := by decide +kernel
theorem dL_lay_187 : decode cL_lay 187 = .ok (.if_icmp .ge 7, 3) := by decide +kernel
theorem dL_lay_190 : decode cL_lay 190 = .ok (.iconst 0, 1) := by decide +kernel
theorem dL_lay_191 : decode cL_lay 191 = .ok (.goto 20, 3) := by decide +kernel
theorem dL_lay_194 : decode cL_lay 194 = .ok (.iload 10, 2) := by decide +kernel
theorem dL_lay_196 : decode cL_lay 196 = .ok (.iconst 2, 1) := by decide +kernel
theorem dL_lay_197 : decode cL_lay 197 = .ok (.iload 12, 2) := by decide +kernel
theorem dL_lay_199 : decode cL_lay 199 = .ok (.imul, 1) := by decide +kernel
theorem dL_lay_200 : decode cL_lay 200 = .ok (.ishr, 1) := by decide +kernel
theorem dL_lay_201 : decode cL_lay 201 = .ok (.iconst 3, 1) := by decide +kernel
theorem dL_lay_202 : decode cL_lay 202 = .ok (.iload 12, 2) := by decide +kernel
theorem dL_lay_204 : decode cL_lay 204 = .ok (.imul, 1) := by decide +kernel
theorem dL_lay_205 : decode cL_lay 205 = .ok (.iadd, 1) := by decide +kernel
theorem dL_lay_206 : decode cL_lay 206 = .ok (.bipush 10, 2) := by decide +kernel
theorem dL_lay_208 : decode cL_lay 208 = .ok (.invokestatic 15, 3) := by decide +kernel
theorem dL_lay_211 : decode cL_lay 211 = .ok (.istore 13, 2) := by decide +kernel
theorem dL_lay_213 : decode cL_lay 213 = .ok (.iload 9, 2) := by decide +kernel
theorem dL_lay_215 : decode cL_lay 215 = .ok (.ifCond .le 43, 3) := by decide +kernel
theorem dL_lay_218 : decode cL_lay 218 = .ok (.iload 6, 2) := by decide +kernel
theorem dL_lay_220 : decode cL_lay 220 = .ok (.bipush 6, 2) := by decide +kernel
theorem dL_lay_222 : decode cL_lay 222 = .ok (.iload 9, 2) := by decide +kernel
theorem dL_lay_224 : decode cL_lay 224 = .ok (.iadd, 1) := by decide +kernel
theorem dL_lay_225 : decode cL_lay 225 = .ok (.ishr, 1) := by decide +kernel
theorem dL_lay_226 : decode cL_lay 226 = .ok (.iconst 1, 1) := by decide +kernel
theorem dL_lay_227 : decode cL_lay 227 = .ok (.iand, 1) := by decide +kernel
theorem dL_lay_228 : decode cL_lay 228 = .ok (.iconst 1, 1) := by decide +kernel
theorem dL_lay_229 : decode cL_lay 229 = .ok (.if_icmp .ne 29, 3) := by decide +kernel
theorem dL_lay_232 : decode cL_lay 232 = .ok (.iload 12, 2) := by decide +kernel
theorem dL_lay_234 : decode cL_lay 234 = .ok (.iload 10, 2) := by decide +kernel
theorem dL_lay_236 : decode cL_lay 236 = .ok (.bipush 7, 2) := by decide +kernel
theorem dL_lay_238 : decode cL_lay 238 = .ok (.iand, 1) := by decide +kernel
theorem dL_lay_239 : decode cL_lay 239 = .ok (.if_icmp .eq 19, 3) := by decide +kernel
theorem dL_lay_242 : decode cL_lay 242 = .ok (.aload_n 2, 1) := by decide +kernel
theorem dL_lay_243 : decode cL_lay 243 = .ok (.aload_n 3, 1) := by decide +kernel
theorem dL_lay_244 : decode cL_lay 244 = .ok (.iload 9, 2) := by decide +kernel
theorem dL_lay_246 : decode cL_lay 246 = .ok (.iconst 1, 1) := by decide +kernel
theorem dL_lay_247 : decode cL_lay 247 = .ok (.isub, 1) := by decide +kernel
theorem dL_lay_248 : decode cL_lay 248 = .ok (.iconst 1, 1) := by decide +kernel
theorem dL_lay_249 : decode cL_lay 249 = .ok (.iload 12, 2) := by decide +kernel
theorem dL_lay_251 : decode cL_lay 251 = .ok (.iadd, 1) := by decide +kernel
theorem dL_lay_252 : decode cL_lay 252 = .ok (.invokestatic 29, 3) := by decide +kernel
theorem dL_lay_255 : decode cL_lay 255 = .ok (.goto 5, 3) := by decide +kernel
theorem dL_lay_258 : decode cL_lay 258 = .ok (.iload 13, 2) := by decide +kernel
theorem dL_lay_260 : decode cL_lay 260 = .ok (.istore 13, 2) := by decide +kernel
theorem dL_lay_262 : decode cL_lay 262 = .ok (.aload_n 2, 1) := by decide +kernel
theorem dL_lay_263 : decode cL_lay 263 = .ok (.aload_n 3, 1) := by decide +kernel
theorem dL_lay_264 : decode cL_lay 264 = .ok (.iload 9, 2) := by decide +kernel
theorem dL_lay_266 : decode cL_lay 266 = .ok (.iconst 1, 1) := by decide +kernel
theorem dL_lay_267 : decode cL_lay 267 = .ok (.iload 12, 2) := by decide +kernel
theorem dL_lay_269 : decode cL_lay 269 = .ok (.iadd, 1) := by decide +kernel
theorem dL_lay_270 : decode cL_lay 270 = .ok (.iload 13, 2) := by decide +kernel
theorem dL_lay_272 : decode cL_lay 272 = .ok (.invokestatic 25, 3) := by decide +kernel
theorem dL_lay_275 : decode cL_lay 275 = .ok (.iload 7, 2) := by decide +kernel
theorem dL_lay_277 : decode cL_lay 277 = .ok (.ifCond .eq 23, 3) := by decide +kernel
theorem dL_lay_280 : decode cL_lay 280 = .ok (.aload_n 0, 1) := by decide +kernel
theorem dL_lay_281 : decode cL_lay 281 = .ok (.iconst 0, 1) := by decide +kernel
theorem dL_lay_282 : decode cL_lay 282 = .ok (.iload 8, 2) := by decide +kernel
theorem dL_lay_284 : decode cL_lay 284 = .ok (.bipush 48, 2) := by decide +kernel
theorem dL_lay_286 : decode cL_lay 286 = .ok (.iload 13, 2) := by decide +kernel
theorem dL_lay_288 : decode cL_lay 288 = .ok (.iadd, 1) := by decide +kernel
theorem dL_lay_289 : decode cL_lay 289 = .ok (.invokevirtual 19, 3) := by decide +kernel
theorem dL_lay_292 : decode cL_lay 292 = .ok (.iconst 1, 1) := by decide +kernel
theorem dL_lay_293 : decode cL_lay 293 = .ok (.if_icmp .ne 7, 3) := by decide +kernel
theorem dL_lay_296 : decode cL_lay 296 = .ok (.iconst 1, 1) := by decide +kernel
theorem dL_lay_297 : decode cL_lay 297 = .ok (.goto 4, 3) := by decide +kernel
theorem dL_lay_300 : decode cL_lay 300 = .ok (.iconst 0, 1) := by decide +kernel
theorem dL_lay_301 : decode cL_lay 301 = .ok (.istore 7, 2) := by decide +kernel
theorem dL_lay_303 : decode cL_lay 303 = .ok (.iinc 8 1, 3) := by decide +kernel
theorem dL_lay_306 : decode cL_lay 306 = .ok (.iinc 12 1, 3) := by decide +kernel
theorem dL_lay_309 : decode cL_lay 309 = .ok (.goto (-145), 3) := by decide +kernel
theorem dL_lay_312 : decode cL_lay 312 = .ok (.iinc 9 1, 3) := by decide +kernel
theorem dL_lay_315 : decode cL_lay 315 = .ok (.goto (-276), 3) := by decide +kernel
theorem dL_lay_318 : decode cL_lay 318 = .ok (.aload_n 1, 1) := by decide +kernel
theorem dL_lay_319 : decode cL_lay 319 = .ok (.bipush 12, 2) := by decide +kernel
theorem dL_lay_321 : decode cL_lay 321 = .ok (.iload 8, 2) := by decide +kernel
theorem dL_lay_323 : decode cL_lay 323 = .ok (.iastore, 1) := by decide +kernel
theorem dL_lay_324 : decode cL_lay 324 = .ok (.iload 7, 2) := by decide +kernel
theorem dL_lay_326 : decode cL_lay 326 = .ok (.ifCond .eq 15, 3) := by decide +kernel
theorem dL_lay_329 : decode cL_lay 329 = .ok (.aload_n 0, 1) := by decide +kernel
theorem dL_lay_330 : decode cL_lay 330 = .ok (.iconst 0, 1) := by decide +kernel
theorem dL_lay_331 : decode cL_lay 331 = .ok (.iconst 0, 1) := by decide +kernel
theorem dL_lay_332 : decode cL_lay 332 = .ok (.iconst 0, 1) := by decide +kernel
theorem dL_lay_333 : decode cL_lay 333 = .ok (.iload 8, 2) := by decide +kernel
theorem dL_lay_335 : decode cL_lay 335 = .ok (.invokevirtual 33, 3) := by decide +kernel
theorem dL_lay_338 : decode cL_lay 338 = .ok (.goto 6, 3) := by decide +kernel
theorem dL_lay_341 : decode cL_lay 341 = .ok (.sipush (-999), 3) := by decide +kernel
theorem dL_lay_344 : decode cL_lay 344 = .ok (.ireturn, 1) := by decide +kernel
theorem dL_set_0 : decode cL_set 0 = .ok (.iload_n 2, 1) := by decide +kernel
theorem dL_set_1 : decode cL_set 1 = .ok (.bipush 6, 2) := by decide +kernel
theorem dL_set_3 : decode cL_set 3 = .ok (.if_icmp .ge 16, 3) := by decide +kernel
theorem dL_set_6 : decode cL_set 6 = .ok (.aload_n 0, 1) := by decide +kernel
theorem dL_set_7 : decode cL_set 7 = .ok (.bipush 10, 2) := by decide +kernel
theorem dL_set_9 : decode cL_set 9 = .ok (.iload_n 2, 1) := by decide +kernel
theorem dL_set_10 : decode cL_set 10 = .ok (.imul, 1) := by decide +kernel
theorem dL_set_11 : decode cL_set 11 = .ok (.iload_n 3, 1) := by decide +kernel
theorem dL_set_12 : decode cL_set 12 = .ok (.iadd, 1) := by decide +kernel
theorem dL_set_13 : decode cL_set 13 = .ok (.iload 4, 2) := by decide +kernel
theorem dL_set_15 : decode cL_set 15 = .ok (.iastore, 1) := by decide +kernel
theorem dL_set_16 : decode cL_set 16 = .ok (.goto 16, 3) := by decide +kernel
theorem dL_set_19 : decode cL_set 19 = .ok (.aload_n 1, 1) := by decide +kernel
theorem dL_set_20 : decode cL_set 20 = .ok (.bipush 10, 2) := by decide +kernel
theorem dL_set_22 : decode cL_set 22 = .ok (.iload_n 2, 1) := by decide +kernel
theorem dL_set_23 : decode cL_set 23 = .ok (.bipush 6, 2) := by decide +kernel
theorem dL_set_25 : decode cL_set 25 = .ok (.isub, 1) := by decide +kernel
theorem dL_set_26 : decode cL_set 26 = .ok (.imul, 1) := by decide +kernel
theorem dL_set_27 : decode cL_set 27 = .ok (.iload_n 3, 1) := by decide +kernel
theorem dL_set_28 : decode cL_set 28 = .ok (.iadd, 1) := by decide +kernel
theorem dL_set_29 : decode cL_set 29 = .ok (.iload 4, 2) := by decide +kernel
theorem dL_set_31 : decode cL_set 31 = .ok (.iastore, 1) := by decide +kernel
theorem dL_set_32 : decode cL_set 32 = .ok (.return_, 1) := by decide +kernel
theorem dL_get_0 : decode cL_get 0 = .ok (.iload_n 2, 1) := by decide +kernel
theorem dL_get_1 : decode cL_get 1 = .ok (.bipush 6, 2) := by decide +kernel
theorem dL_get_3 : decode cL_get 3 = .ok (.if_icmp .ge 14, 3) := by decide +kernel
theorem dL_get_6 : decode cL_get 6 = .ok (.aload_n 0, 1) := by decide +kernel
theorem dL_get_7 : decode cL_get 7 = .ok (.bipush 10, 2) := by decide +kernel
theorem dL_get_9 : decode cL_get 9 = .ok (.iload_n 2, 1) := by decide +kernel
theorem dL_get_10 : decode cL_get 10 = .ok (.imul, 1) := by decide +kernel
theorem dL_get_11 : decode cL_get 11 = .ok (.iload_n 3, 1) := by decide +kernel
theorem dL_get_12 : decode cL_get 12 = .ok (.iadd, 1) := by decide +kernel
theorem dL_get_13 : decode cL_get 13 = .ok (.iaload, 1) := by decide +kernel
theorem dL_get_14 : decode cL_get 14 = .ok (.goto 14, 3) := by decide +kernel
theorem dL_get_17 : decode cL_get 17 = .ok (.aload_n 1, 1) := by decide +kernel
theorem dL_get_18 : decode cL_get 18 = .ok (.bipush 10, 2) := by decide +kernel
theorem dL_get_20 : decode cL_get 20 = .ok (.iload_n 2, 1) := by decide +kernel
theorem dL_get_21 : decode cL_get 21 = .ok (.bipush 6, 2) := by decide +kernel
theorem dL_get_23 : decode cL_get 23 = .ok (.isub, 1) := by decide +kernel
theorem dL_get_24 : decode cL_get 24 = .ok (.imul, 1) := by decide +kernel
theorem dL_get_25 : decode cL_get 25 = .ok (.iload_n 3, 1) := by decide +kernel
theorem dL_get_26 : decode cL_get 26 = .ok (.iadd, 1) := by decide +kernel
theorem dL_get_27 : decode cL_get 27 = .ok (.iaload, 1) := by decide +kernel
theorem dL_get_28 : decode cL_get 28 = .ok (.ireturn, 1) := by decide +kernel
theorem dL_off_0 : decode cL_off 0 = .ok (.iload_n 0, 1) := by decide +kernel
theorem dL_off_1 : decode cL_off 1 = .ok (.iload_n 1, 1) := by decide +kernel
theorem dL_off_2 : decode cL_off 2 = .ok (.if_icmp .ge 9, 3) := by decide +kernel
theorem dL_off_5 : decode cL_off 5 = .ok (.iload_n 1, 1) := by decide +kernel
theorem dL_off_6 : decode cL_off 6 = .ok (.iload_n 0, 1) := by decide +kernel
theorem dL_off_7 : decode cL_off 7 = .ok (.isub, 1) := by decide +kernel
theorem dL_off_8 : decode cL_off 8 = .ok (.goto 6, 3) := by decide +kernel
theorem dL_off_11 : decode cL_off 11 = .ok (.iload_n 0, 1) := by decide +kernel
theorem dL_off_12 : decode cL_off 12 = .ok (.iload_n 1, 1) := by decide +kernel
theorem dL_off_13 : decode cL_off 13 = .ok (.isub, 1) := by decide +kernel
theorem dL_off_14 : decode cL_off 14 = .ok (.ireturn, 1) := by decide +kernel
theorem dL_fades_0 : decode cL_fades 0 = .ok (.iload_n 3, 1) := by decide +kernel
theorem dL_fades_1 : decode cL_fades 1 = .ok (.istore 5, 2) := by decide +kernel
theorem dL_fades_3 : decode cL_fades 3 = .ok (.iload_n 1, 1) := by decide +kernel
theorem dL_fades_4 : decode cL_fades 4 = .ok (.iconst 2, 1) := by decide +kernel
theorem dL_fades_5 : decode cL_fades 5 = .ok (.if_icmp .ne 9, 3) := by decide +kernel
theorem dL_fades_8 : decode cL_fades 8 = .ok (.sipush 1000, 3) := by decide +kernel
theorem dL_fades_11 : decode cL_fades 11 = .ok (.goto 12, 3) := by decide +kernel
theorem dL_fades_14 : decode cL_fades 14 = .ok (.aload_n 0, 1) := by decide +kernel
theorem dL_fades_15 : decode cL_fades 15 = .ok (.iconst 3, 1) := by decide +kernel
theorem dL_fades_16 : decode cL_fades 16 = .ok (.iload_n 2, 1) := by decide +kernel
theorem dL_fades_17 : decode cL_fades 17 = .ok (.iadd, 1) := by decide +kernel
theorem dL_fades_18 : decode cL_fades 18 = .ok (.iaload, 1) := by decide +kernel
theorem dL_fades_19 : decode cL_fades 19 = .ok (.iconst 1, 1) := by decide +kernel
theorem dL_fades_20 : decode cL_fades 20 = .ok (.iload_n 1, 1) := by decide +kernel
theorem dL_fades_21 : decode cL_fades 21 = .ok (.iadd, 1) := by decide +kernel
theorem dL_fades_22 : decode cL_fades 22 = .ok (.imul, 1) := by decide +kernel
theorem dL_fades_23 : decode cL_fades 23 = .ok (.istore 6, 2) := by decide +kernel
theorem dL_fades_25 : decode cL_fades 25 = .ok (.iload 4, 2) := by decide +kernel
theorem dL_fades_27 : decode cL_fades 27 = .ok (.istore 7, 2) := by decide +kernel
theorem dL_fades_29 : decode cL_fades 29 = .ok (.iload 7, 2) := by decide +kernel
theorem dL_fades_31 : decode cL_fades 31 = .ok (.iload 6, 2) := by decide +kernel
theorem dL_fades_33 : decode cL_fades 33 = .ok (.if_icmp .lt 24, 3) := by decide +kernel
theorem dL_fades_36 : decode cL_fades 36 = .ok (.iload 5, 2) := by decide +kernel
theorem dL_fades_38 : decode cL_fades 38 = .ok (.iload 5, 2) := by decide +kernel
theorem dL_fades_40 : decode cL_fades 40 = .ok (.iconst 2, 1) := by decide +kernel
theorem dL_fades_41 : decode cL_fades 41 = .ok (.irem, 1) := by decide +kernel
theorem dL_fades_42 : decode cL_fades 42 = .ok (.isub, 1) := by decide +kernel
theorem dL_fades_43 : decode cL_fades 43 = .ok (.iconst 2, 1) := by decide +kernel
theorem dL_fades_44 : decode cL_fades 44 = .ok (.idiv, 1) := by decide +kernel
theorem dL_fades_45 : decode cL_fades 45 = .ok (.istore 5, 2) := by decide +kernel
theorem dL_fades_47 : decode cL_fades 47 = .ok (.iload 7, 2) := by decide +kernel
theorem dL_fades_49 : decode cL_fades 49 = .ok (.iload 6, 2) := by decide +kernel
theorem dL_fades_51 : decode cL_fades 51 = .ok (.isub, 1) := by decide +kernel
theorem dL_fades_52 : decode cL_fades 52 = .ok (.istore 7, 2) := by decide +kernel
theorem dL_fades_54 : decode cL_fades 54 = .ok (.goto (-25), 3) := by decide +kernel
theorem dL_fades_57 : decode cL_fades 57 = .ok (.iload 5, 2) := by decide +kernel
theorem dL_fades_59 : decode cL_fades 59 = .ok (.ireturn, 1) := by decide +kernel
set_option maxRecDepth 20000 in
theorem ggL_apart_L_get : GoodIn wsL_apart wsL_get := goodIn_r _ [4] (by decide +kernel) (by decide +kernel)
set_option maxRecDepth 20000 in
theorem gL_apart_L_get : GoodIn wsL_apart (va_wsS RL 29 yL_get wsL_get) := goodIn_app (goodIn_of _ (by decide +kernel)) ggL_apart_L_get
set_option maxRecDepth 20000 in
theorem ggL_apart_L_off : GoodIn wsL_apart wsL_off := goodIn_r _ [7] (by decide +kernel) (by decide +kernel)
set_option maxRecDepth 20000 in
theorem gL_apart_L_off : GoodIn wsL_apart (va_wsS RL 45 yL_off wsL_off) := goodIn_app (goodIn_of _ (by decide +kernel)) ggL_apart_L_off
theorem dL_apart_0 : decode cL_apart 0 = .ok (.iconst 0, 1) := by decide +kernel
theorem dL_apart_1 : decode cL_apart 1 = .ok (.istore 4, 2) := by decide +kernel
theorem dL_apart_3 : decode cL_apart 3 = .ok (.iconst 1, 1) := by decide +kernel
theorem dL_apart_4 : decode cL_apart 4 = .ok (.istore 5, 2) := by decide +kernel
theorem dL_apart_6 : decode cL_apart 6 = .ok (.iload 5, 2) := by decide +kernel
theorem dL_apart_8 : decode cL_apart 8 = .ok (.bipush 10, 2) := by decide +kernel
theorem dL_apart_10 : decode cL_apart 10 = .ok (.if_icmp .ge 33, 3) := by decide +kernel
theorem dL_apart_13 : decode cL_apart 13 = .ok (.iload 4, 2) := by decide +kernel
theorem dL_apart_15 : decode cL_apart 15 = .ok (.aload_n 0, 1) := by decide +kernel
theorem dL_apart_16 : decode cL_apart 16 = .ok (.aload_n 1, 1) := by decide +kernel
theorem dL_apart_17 : decode cL_apart 17 = .ok (.iload_n 2, 1) := by decide +kernel
theorem dL_apart_18 : decode cL_apart 18 = .ok (.iload 5, 2) := by decide +kernel
theorem dL_apart_20 : decode cL_apart 20 = .ok (.invokestatic 29, 3) := by decide +kernel
theorem dL_apart_23 : decode cL_apart 23 = .ok (.aload_n 0, 1) := by decide +kernel
theorem dL_apart_24 : decode cL_apart 24 = .ok (.aload_n 1, 1) := by decide +kernel
theorem dL_apart_25 : decode cL_apart 25 = .ok (.iload_n 3, 1) := by decide +kernel
theorem dL_apart_26 : decode cL_apart 26 = .ok (.iload 5, 2) := by decide +kernel
theorem dL_apart_28 : decode cL_apart 28 = .ok (.invokestatic 29, 3) := by decide +kernel
theorem dL_apart_31 : decode cL_apart 31 = .ok (.invokestatic 45, 3) := by decide +kernel
theorem dL_apart_34 : decode cL_apart 34 = .ok (.iadd, 1) := by decide +kernel
theorem dL_apart_35 : decode cL_apart 35 = .ok (.istore 4, 2) := by decide +kernel
theorem dL_apart_37 : decode cL_apart 37 = .ok (.iinc 5 1, 3) := by decide +kernel
theorem dL_apart_40 : decode cL_apart 40 = .ok (.goto (-34), 3) := by decide +kernel
theorem dL_apart_43 : decode cL_apart 43 = .ok (.iload 4, 2) := by decide +kernel
theorem dL_apart_45 : decode cL_apart 45 = .ok (.ireturn, 1) := by decide +kernel
theorem dL_bits_0 : decode cL_bits 0 = .ok (.iconst 0, 1) := by decide +kernel
theorem dL_bits_1 : decode cL_bits 1 = .ok (.istore_n 1, 1) := by decide +kernel
theorem dL_bits_2 : decode cL_bits 2 = .ok (.iload_n 0, 1) := by decide +kernel
theorem dL_bits_3 : decode cL_bits 3 = .ok (.istore_n 2, 1) := by decide +kernel
theorem dL_bits_4 : decode cL_bits 4 = .ok (.iload_n 2, 1) := by decide +kernel
theorem dL_bits_5 : decode cL_bits 5 = .ok (.ifCond .eq 15, 3) := by decide +kernel
theorem dL_bits_8 : decode cL_bits 8 = .ok (.iinc 1 1, 3) := by decide +kernel
theorem dL_bits_11 : decode cL_bits 11 = .ok (.iload_n 2, 1) := by decide +kernel
theorem dL_bits_12 : decode cL_bits 12 = .ok (.iload_n 2, 1) := by decide +kernel
theorem dL_bits_13 : decode cL_bits 13 = .ok (.iconst 1, 1) := by decide +kernel
theorem dL_bits_14 : decode cL_bits 14 = .ok (.isub, 1) := by decide +kernel
theorem dL_bits_15 : decode cL_bits 15 = .ok (.iand, 1) := by decide +kernel
theorem dL_bits_16 : decode cL_bits 16 = .ok (.istore_n 2, 1) := by decide +kernel
theorem dL_bits_17 : decode cL_bits 17 = .ok (.goto (-13), 3) := by decide +kernel
theorem dL_bits_20 : decode cL_bits 20 = .ok (.iload_n 1, 1) := by decide +kernel
theorem dL_bits_21 : decode cL_bits 21 = .ok (.ireturn, 1) := by decide +kernel

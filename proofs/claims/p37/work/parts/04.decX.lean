theorem dX0_init_0 : decode cX0_init 0 = .ok (.aload_n 0, 1) := by decide +kernel
theorem dX0_init_1 : decode cX0_init 1 = .ok (.invokespecial 1, 3) := by decide +kernel
theorem dX0_init_4 : decode cX0_init 4 = .ok (.return_, 1) := by decide +kernel
theorem dX1_init_0 : decode cX1_init 0 = .ok (.aload_n 0, 1) := by decide +kernel
theorem dX1_init_1 : decode cX1_init 1 = .ok (.invokespecial 3, 3) := by decide +kernel
theorem dX1_init_4 : decode cX1_init 4 = .ok (.aload_n 0, 1) := by decide +kernel
theorem dX1_init_5 : decode cX1_init 5 = .ok (.bipush 90, 2) := by decide +kernel
theorem dX1_init_7 : decode cX1_init 7 = .ok (.newarray .int, 2) := by decide +kernel
theorem dX1_init_9 : decode cX1_init 9 = .ok (.putfield 9, 3) := by decide +kernel
theorem dX1_init_12 : decode cX1_init 12 = .ok (.return_, 1) := by decide +kernel
set_option maxRecDepth 20000 in
theorem ggX1_renew_J7_fill_53178 : GoodIn wsX1_renew wsJ7_fill_53178 := goodIn_r _ [8] (by decide +kernel) (by decide +kernel)
set_option maxRecDepth 20000 in
theorem gX1_renew_J7_fill_53178 : GoodIn wsX1_renew (va_wsS RX1 26 yJ7_fill_53178 wsJ7_fill_53178) := goodIn_app (goodIn_of _ (by decide +kernel)) ggX1_renew_J7_fill_53178
theorem dX1_renew_0 : decode cX1_renew 0 = .ok (.aload_n 0, 1) := by decide +kernel
theorem dX1_renew_1 : decode cX1_renew 1 = .ok (.iconst 1, 1) := by decide +kernel
theorem dX1_renew_2 : decode cX1_renew 2 = .ok (.putfield 15, 3) := by decide +kernel
theorem dX1_renew_5 : decode cX1_renew 5 = .ok (.aload_n 0, 1) := by decide +kernel
theorem dX1_renew_6 : decode cX1_renew 6 = .ok (.iload_n 1, 1) := by decide +kernel
theorem dX1_renew_7 : decode cX1_renew 7 = .ok (.putfield 19, 3) := by decide +kernel
theorem dX1_renew_10 : decode cX1_renew 10 = .ok (.aload_n 0, 1) := by decide +kernel
theorem dX1_renew_11 : decode cX1_renew 11 = .ok (.iload_n 2, 1) := by decide +kernel
theorem dX1_renew_12 : decode cX1_renew 12 = .ok (.putfield 23, 3) := by decide +kernel
theorem dX1_renew_15 : decode cX1_renew 15 = .ok (.aload_n 0, 1) := by decide +kernel
theorem dX1_renew_16 : decode cX1_renew 16 = .ok (.getfield 9, 3) := by decide +kernel
theorem dX1_renew_19 : decode cX1_renew 19 = .ok (.iconst 0, 1) := by decide +kernel
theorem dX1_renew_20 : decode cX1_renew 20 = .ok (.invokestatic 26, 3) := by decide +kernel
theorem dX1_renew_23 : decode cX1_renew 23 = .ok (.return_, 1) := by decide +kernel
theorem dX1_cut_0 : decode cX1_cut 0 = .ok (.aload_n 0, 1) := by decide +kernel
theorem dX1_cut_1 : decode cX1_cut 1 = .ok (.getfield 19, 3) := by decide +kernel
theorem dX1_cut_4 : decode cX1_cut 4 = .ok (.ifCond .ne 6, 3) := by decide +kernel
theorem dX1_cut_7 : decode cX1_cut 7 = .ok (.iload_n 1, 1) := by decide +kernel
theorem dX1_cut_8 : decode cX1_cut 8 = .ok (.i2b, 1) := by decide +kernel
theorem dX1_cut_9 : decode cX1_cut 9 = .ok (.ireturn, 1) := by decide +kernel
theorem dX1_cut_10 : decode cX1_cut 10 = .ok (.aload_n 0, 1) := by decide +kernel
theorem dX1_cut_11 : decode cX1_cut 11 = .ok (.getfield 19, 3) := by decide +kernel
theorem dX1_cut_14 : decode cX1_cut 14 = .ok (.iconst 1, 1) := by decide +kernel
theorem dX1_cut_15 : decode cX1_cut 15 = .ok (.if_icmp .ne 8, 3) := by decide +kernel
theorem dX1_cut_18 : decode cX1_cut 18 = .ok (.iload_n 1, 1) := by decide +kernel
theorem dX1_cut_19 : decode cX1_cut 19 = .ok (.i2s, 1) := by decide +kernel
theorem dX1_cut_20 : decode cX1_cut 20 = .ok (.goto 4, 3) := by decide +kernel
theorem dX1_cut_23 : decode cX1_cut 23 = .ok (.iload_n 1, 1) := by decide +kernel
theorem dX1_cut_24 : decode cX1_cut 24 = .ok (.ireturn, 1) := by decide +kernel
theorem dX1_lacks_0 : decode cX1_lacks 0 = .ok (.iload_n 1, 1) := by decide +kernel
theorem dX1_lacks_1 : decode cX1_lacks 1 = .ok (.ifCond .lt 16, 3) := by decide +kernel
theorem dX1_lacks_4 : decode cX1_lacks 4 = .ok (.iload_n 1, 1) := by decide +kernel
theorem dX1_lacks_5 : decode cX1_lacks 5 = .ok (.i2l, 1) := by decide +kernel
theorem dX1_lacks_6 : decode cX1_lacks 6 = .ok (.lload_n 2, 1) := by decide +kernel
theorem dX1_lacks_7 : decode cX1_lacks 7 = .ok (.ladd, 1) := by decide +kernel
theorem dX1_lacks_8 : decode cX1_lacks 8 = .ok (.aload_n 0, 1) := by decide +kernel
theorem dX1_lacks_9 : decode cX1_lacks 9 = .ok (.getfield 23, 3) := by decide +kernel
theorem dX1_lacks_12 : decode cX1_lacks 12 = .ok (.i2l, 1) := by decide +kernel
theorem dX1_lacks_13 : decode cX1_lacks 13 = .ok (.lcmp, 1) := by decide +kernel
theorem dX1_lacks_14 : decode cX1_lacks 14 = .ok (.ifCond .le 7, 3) := by decide +kernel
theorem dX1_lacks_17 : decode cX1_lacks 17 = .ok (.iconst 1, 1) := by decide +kernel
theorem dX1_lacks_18 : decode cX1_lacks 18 = .ok (.goto 4, 3) := by decide +kernel
theorem dX1_lacks_21 : decode cX1_lacks 21 = .ok (.iconst 0, 1) := by decide +kernel
theorem dX1_lacks_22 : decode cX1_lacks 22 = .ok (.ireturn, 1) := by decide +kernel
theorem dX2_init_0 : decode cX2_init 0 = .ok (.aload_n 0, 1) := by decide +kernel
theorem dX2_init_1 : decode cX2_init 1 = .ok (.invokespecial 3, 3) := by decide +kernel
theorem dX2_init_4 : decode cX2_init 4 = .ok (.aload_n 0, 1) := by decide +kernel
theorem dX2_init_5 : decode cX2_init 5 = .ok (.bipush 9, 2) := by decide +kernel
theorem dX2_init_7 : decode cX2_init 7 = .ok (.newarray .int, 2) := by decide +kernel
theorem dX2_init_9 : decode cX2_init 9 = .ok (.putfield 9, 3) := by decide +kernel
theorem dX2_init_12 : decode cX2_init 12 = .ok (.return_, 1) := by decide +kernel
set_option maxRecDepth 20000 in
theorem ggX3_init_X1_init : GoodIn wsX3_init wsX1_init := goodIn_r _ [23, 24, 2, 3, 10, 25, 47, 48, 49, 50] (by decide +kernel) (by decide +kernel)
set_option maxRecDepth 20000 in
theorem gX3_init_X1_init_n45 : GoodIn wsX3_init (wsX1_init) := ggX3_init_X1_init
set_option maxRecDepth 20000 in
theorem ggX3_init_X2_init : GoodIn wsX3_init wsX2_init := goodIn_r _ [27, 28, 2, 3, 10, 29, 51, 52, 53] (by decide +kernel) (by decide +kernel)
set_option maxRecDepth 20000 in
theorem gX3_init_X2_init_n46 : GoodIn wsX3_init (wsX2_init) := ggX3_init_X2_init
set_option maxRecDepth 20000 in
theorem ggX3_init_X0_init : GoodIn wsX3_init wsX0_init := goodIn_r _ [31, 32, 2, 3] (by decide +kernel) (by decide +kernel)
set_option maxRecDepth 20000 in
theorem gX3_init_X0_init_n47 : GoodIn wsX3_init (wsX0_init) := ggX3_init_X0_init
theorem dX3_init_0 : decode cX3_init 0 = .ok (.aload_n 0, 1) := by decide +kernel
theorem dX3_init_1 : decode cX3_init 1 = .ok (.invokespecial 5, 3) := by decide +kernel
theorem dX3_init_4 : decode cX3_init 4 = .ok (.aload_n 0, 1) := by decide +kernel
theorem dX3_init_5 : decode cX3_init 5 = .ok (.iconst 4, 1) := by decide +kernel
theorem dX3_init_6 : decode cX3_init 6 = .ok (.anewarray 11, 3) := by decide +kernel
theorem dX3_init_9 : decode cX3_init 9 = .ok (.putfield 13, 3) := by decide +kernel
theorem dX3_init_12 : decode cX3_init 12 = .ok (.aload_n 0, 1) := by decide +kernel
theorem dX3_init_13 : decode cX3_init 13 = .ok (.bipush 8, 2) := by decide +kernel
theorem dX3_init_15 : decode cX3_init 15 = .ok (.anewarray 17, 3) := by decide +kernel
theorem dX3_init_18 : decode cX3_init 18 = .ok (.putfield 19, 3) := by decide +kernel
theorem dX3_init_21 : decode cX3_init 21 = .ok (.aload_n 0, 1) := by decide +kernel
theorem dX3_init_22 : decode cX3_init 22 = .ok (.bipush 8, 2) := by decide +kernel
theorem dX3_init_24 : decode cX3_init 24 = .ok (.anewarray 23, 3) := by decide +kernel
theorem dX3_init_27 : decode cX3_init 27 = .ok (.putfield 25, 3) := by decide +kernel
theorem dX3_init_30 : decode cX3_init 30 = .ok (.aload_n 0, 1) := by decide +kernel
theorem dX3_init_31 : decode cX3_init 31 = .ok (.bipush 9, 2) := by decide +kernel
theorem dX3_init_33 : decode cX3_init 33 = .ok (.newarray .int, 2) := by decide +kernel
theorem dX3_init_35 : decode cX3_init 35 = .ok (.putfield 29, 3) := by decide +kernel
theorem dX3_init_38 : decode cX3_init 38 = .ok (.aload_n 0, 1) := by decide +kernel
theorem dX3_init_39 : decode cX3_init 39 = .ok (.bipush 9, 2) := by decide +kernel
theorem dX3_init_41 : decode cX3_init 41 = .ok (.newarray .int, 2) := by decide +kernel
theorem dX3_init_43 : decode cX3_init 43 = .ok (.putfield 33, 3) := by decide +kernel
theorem dX3_init_46 : decode cX3_init 46 = .ok (.aload_n 0, 1) := by decide +kernel
theorem dX3_init_47 : decode cX3_init 47 = .ok (.bipush 9, 2) := by decide +kernel
theorem dX3_init_49 : decode cX3_init 49 = .ok (.newarray .int, 2) := by decide +kernel
theorem dX3_init_51 : decode cX3_init 51 = .ok (.putfield 36, 3) := by decide +kernel
theorem dX3_init_54 : decode cX3_init 54 = .ok (.aload_n 0, 1) := by decide +kernel
theorem dX3_init_55 : decode cX3_init 55 = .ok (.bipush 8, 2) := by decide +kernel
theorem dX3_init_57 : decode cX3_init 57 = .ok (.newarray .int, 2) := by decide +kernel
theorem dX3_init_59 : decode cX3_init 59 = .ok (.putfield 39, 3) := by decide +kernel
theorem dX3_init_62 : decode cX3_init 62 = .ok (.aload_n 0, 1) := by decide +kernel
theorem dX3_init_63 : decode cX3_init 63 = .ok (.iconst 5, 1) := by decide +kernel
theorem dX3_init_64 : decode cX3_init 64 = .ok (.newarray .int, 2) := by decide +kernel
theorem dX3_init_66 : decode cX3_init 66 = .ok (.putfield 42, 3) := by decide +kernel
theorem dX3_init_69 : decode cX3_init 69 = .ok (.iconst 0, 1) := by decide +kernel
theorem dX3_init_70 : decode cX3_init 70 = .ok (.istore_n 1, 1) := by decide +kernel
theorem dX3_init_71 : decode cX3_init 71 = .ok (.iload_n 1, 1) := by decide +kernel
theorem dX3_init_72 : decode cX3_init 72 = .ok (.iconst 4, 1) := by decide +kernel
theorem dX3_init_73 : decode cX3_init 73 = .ok (.if_icmp .ge 22, 3) := by decide +kernel
theorem dX3_init_76 : decode cX3_init 76 = .ok (.aload_n 0, 1) := by decide +kernel
theorem dX3_init_77 : decode cX3_init 77 = .ok (.getfield 13, 3) := by decide +kernel
theorem dX3_init_80 : decode cX3_init 80 = .ok (.iload_n 1, 1) := by decide +kernel
theorem dX3_init_81 : decode cX3_init 81 = .ok (.new 11, 3) := by decide +kernel
theorem dX3_init_84 : decode cX3_init 84 = .ok (.dup, 1) := by decide +kernel
theorem dX3_init_85 : decode cX3_init 85 = .ok (.invokespecial 45, 3) := by decide +kernel
theorem dX3_init_88 : decode cX3_init 88 = .ok (.aastore, 1) := by decide +kernel
theorem dX3_init_89 : decode cX3_init 89 = .ok (.iinc 1 1, 3) := by decide +kernel
theorem dX3_init_92 : decode cX3_init 92 = .ok (.goto (-21), 3) := by decide +kernel
theorem dX3_init_95 : decode cX3_init 95 = .ok (.iconst 0, 1) := by decide +kernel
theorem dX3_init_96 : decode cX3_init 96 = .ok (.istore_n 1, 1) := by decide +kernel
theorem dX3_init_97 : decode cX3_init 97 = .ok (.iload_n 1, 1) := by decide +kernel
theorem dX3_init_98 : decode cX3_init 98 = .ok (.bipush 8, 2) := by decide +kernel
theorem dX3_init_100 : decode cX3_init 100 = .ok (.if_icmp .ge 22, 3) := by decide +kernel
theorem dX3_init_103 : decode cX3_init 103 = .ok (.aload_n 0, 1) := by decide +kernel
theorem dX3_init_104 : decode cX3_init 104 = .ok (.getfield 19, 3) := by decide +kernel
theorem dX3_init_107 : decode cX3_init 107 = .ok (.iload_n 1, 1) := by decide +kernel
theorem dX3_init_108 : decode cX3_init 108 = .ok (.new 17, 3) := by decide +kernel
theorem dX3_init_111 : decode cX3_init 111 = .ok (.dup, 1) := by decide +kernel
theorem dX3_init_112 : decode cX3_init 112 = .ok (.invokespecial 46, 3) := by decide +kernel
theorem dX3_init_115 : decode cX3_init 115 = .ok (.aastore, 1) := by decide +kernel
theorem dX3_init_116 : decode cX3_init 116 = .ok (.iinc 1 1, 3) := by decide +kernel
theorem dX3_init_119 : decode cX3_init 119 = .ok (.goto (-22), 3) := by decide +kernel
theorem dX3_init_122 : decode cX3_init 122 = .ok (.iconst 0, 1) := by decide +kernel
theorem dX3_init_123 : decode cX3_init 123 = .ok (.istore_n 1, 1) := by decide +kernel
theorem dX3_init_124 : decode cX3_init 124 = .ok (.iload_n 1, 1) := by decide +kernel
theorem dX3_init_125 : decode cX3_init 125 = .ok (.bipush 8, 2) := by decide +kernel
theorem dX3_init_127 : decode cX3_init 127 = .ok (.if_icmp .ge 22, 3) := by decide +kernel
theorem dX3_init_130 : decode cX3_init 130 = .ok (.aload_n 0, 1) := by decide +kernel
theorem dX3_init_131 : decode cX3_init 131 = .ok (.getfield 25, 3) := by decide +kernel
theorem dX3_init_134 : decode cX3_init 134 = .ok (.iload_n 1, 1) := by decide +kernel
theorem dX3_init_135 : decode cX3_init 135 = .ok (.new 23, 3) := by decide +kernel
theorem dX3_init_138 : decode cX3_init 138 = .ok (.dup, 1) := by decide +kernel
theorem dX3_init_139 : decode cX3_init 139 = .ok (.invokespecial 47, 3) := by decide +kernel
theorem dX3_init_142 : decode cX3_init 142 = .ok (.aastore, 1) := by decide +kernel
theorem dX3_init_143 : decode cX3_init 143 = .ok (.iinc 1 1, 3) := by decide +kernel
theorem dX3_init_146 : decode cX3_init 146 = .ok (.goto (-22), 3) := by decide +kernel
theorem dX3_init_149 : decode cX3_init 149 = .ok (.return_, 1) := by decide +kernel
set_option maxRecDepth 20000 in
theorem ggX3_register_X3_spanRefusal : GoodIn wsX3_register wsX3_spanRefusal := goodIn_r _ [7, 1, 8, 9, 10, 6, 11, 12, 13, 14, 15, 16, 17, 18, 19, 20, 21, 22, 23, 24, 25, 26, 27, 55, 56, 57, 58, 59, 60, 61, 62, 63, 64, 65, 66, 67, 68, 69, 70, 71, 72] (by decide +kernel) (by decide +kernel)
set_option maxRecDepth 20000 in
theorem gX3_register_X3_spanRefusal : GoodIn wsX3_register (wsV RX3 48 RX3 yX3_spanRefusal wsX3_spanRefusal) := goodIn_app (goodIn_of _ (by decide +kernel)) ggX3_register_X3_spanRefusal
set_option maxRecDepth 20000 in
theorem ggX3_register_X3_textFault : GoodIn wsX3_register wsX3_textFault := goodIn_r _ [30, 31, 32, 6, 33, 34, 35, 36, 69, 70, 71, 72] (by decide +kernel) (by decide +kernel)
set_option maxRecDepth 20000 in
theorem gX3_register_X3_textFault : GoodIn wsX3_register (va_wsS RX3 52 yX3_textFault wsX3_textFault) := goodIn_app (goodIn_of _ (by decide +kernel)) ggX3_register_X3_textFault
set_option maxRecDepth 20000 in
theorem ggX3_register_X3_takeText : GoodIn wsX3_register wsX3_takeText := goodIn_r _ [40, 2, 41, 34, 35, 6, 36, 55, 56, 57, 58, 59, 60, 61, 62, 63, 64, 65, 66, 67, 68, 69, 70, 71, 72, 73, 74, 75] (by decide +kernel) (by decide +kernel)
set_option maxRecDepth 20000 in
theorem gX3_register_X3_takeText : GoodIn wsX3_register (wsV RX3 56 RX3 yX3_takeText wsX3_takeText) := goodIn_app (goodIn_of _ (by decide +kernel)) ggX3_register_X3_takeText
set_option maxRecDepth 20000 in
theorem ggX3_register_X3_startAnew : GoodIn wsX3_register wsX3_startAnew := goodIn_r _ [45, 46, 47, 48, 49, 50, 51, 52, 53, 54, 55, 56, 57, 58, 59, 60, 61, 62, 63, 64, 65, 66, 67, 68] (by decide +kernel) (by decide +kernel)
set_option maxRecDepth 20000 in
theorem gX3_register_X3_startAnew : GoodIn wsX3_register (wsV RX3 60 RX3 yX3_startAnew wsX3_startAnew) := goodIn_app (goodIn_of _ (by decide +kernel)) ggX3_register_X3_startAnew
theorem dX3_register_0 : decode cX3_register 0 = .ok (.aload_n 0, 1) := by decide +kernel
theorem dX3_register_1 : decode cX3_register 1 = .ok (.iload_n 1, 1) := by decide +kernel
theorem dX3_register_2 : decode cX3_register 2 = .ok (.iload_n 2, 1) := by decide +kernel
theorem dX3_register_3 : decode cX3_register 3 = .ok (.iload_n 3, 1) := by decide +kernel
theorem dX3_register_4 : decode cX3_register 4 = .ok (.iload 4, 2) := by decide +kernel
theorem dX3_register_6 : decode cX3_register 6 = .ok (.i2l, 1) := by decide +kernel
theorem dX3_register_7 : decode cX3_register 7 = .ok (.invokevirtual 48, 3) := by decide +kernel
theorem dX3_register_10 : decode cX3_register 10 = .ok (.istore 5, 2) := by decide +kernel
theorem dX3_register_12 : decode cX3_register 12 = .ok (.iload 5, 2) := by decide +kernel
theorem dX3_register_14 : decode cX3_register 14 = .ok (.ifCond .eq 6, 3) := by decide +kernel
theorem dX3_register_17 : decode cX3_register 17 = .ok (.iload 5, 2) := by decide +kernel
theorem dX3_register_19 : decode cX3_register 19 = .ok (.ireturn, 1) := by decide +kernel
theorem dX3_register_20 : decode cX3_register 20 = .ok (.aload_n 0, 1) := by decide +kernel
theorem dX3_register_21 : decode cX3_register 21 = .ok (.getfield 13, 3) := by decide +kernel
theorem dX3_register_24 : decode cX3_register 24 = .ok (.iload_n 1, 1) := by decide +kernel
theorem dX3_register_25 : decode cX3_register 25 = .ok (.aaload, 1) := by decide +kernel
theorem dX3_register_26 : decode cX3_register 26 = .ok (.iload_n 3, 1) := by decide +kernel
theorem dX3_register_27 : decode cX3_register 27 = .ok (.iload 4, 2) := by decide +kernel
theorem dX3_register_29 : decode cX3_register 29 = .ok (.invokestatic 52, 3) := by decide +kernel
theorem dX3_register_32 : decode cX3_register 32 = .ok (.istore 6, 2) := by decide +kernel
theorem dX3_register_34 : decode cX3_register 34 = .ok (.iload 6, 2) := by decide +kernel
theorem dX3_register_36 : decode cX3_register 36 = .ok (.ifCond .lt 9, 3) := by decide +kernel
theorem dX3_register_39 : decode cX3_register 39 = .ok (.bipush (-100), 2) := by decide +kernel
theorem dX3_register_41 : decode cX3_register 41 = .ok (.iload 6, 2) := by decide +kernel
theorem dX3_register_43 : decode cX3_register 43 = .ok (.isub, 1) := by decide +kernel
theorem dX3_register_44 : decode cX3_register 44 = .ok (.ireturn, 1) := by decide +kernel
theorem dX3_register_45 : decode cX3_register 45 = .ok (.aload_n 0, 1) := by decide +kernel
theorem dX3_register_46 : decode cX3_register 46 = .ok (.aload_n 0, 1) := by decide +kernel
theorem dX3_register_47 : decode cX3_register 47 = .ok (.getfield 13, 3) := by decide +kernel
theorem dX3_register_50 : decode cX3_register 50 = .ok (.iload_n 1, 1) := by decide +kernel
theorem dX3_register_51 : decode cX3_register 51 = .ok (.aaload, 1) := by decide +kernel
theorem dX3_register_52 : decode cX3_register 52 = .ok (.iload_n 3, 1) := by decide +kernel
theorem dX3_register_53 : decode cX3_register 53 = .ok (.iload 4, 2) := by decide +kernel
theorem dX3_register_55 : decode cX3_register 55 = .ok (.invokevirtual 56, 3) := by decide +kernel
theorem dX3_register_58 : decode cX3_register 58 = .ok (.aload_n 0, 1) := by decide +kernel
theorem dX3_register_59 : decode cX3_register 59 = .ok (.invokevirtual 60, 3) := by decide +kernel
theorem dX3_register_62 : decode cX3_register 62 = .ok (.aload_n 0, 1) := by decide +kernel
theorem dX3_register_63 : decode cX3_register 63 = .ok (.getfield 63, 3) := by decide +kernel
theorem dX3_register_66 : decode cX3_register 66 = .ok (.ireturn, 1) := by decide +kernel
set_option maxRecDepth 20000 in
theorem ggX3_half_X3_isSmell : GoodIn wsX3_half wsX3_isSmell := goodIn_r _ [6] (by decide +kernel) (by decide +kernel)
set_option maxRecDepth 20000 in
theorem gX3_half_X3_isSmell : GoodIn wsX3_half (va_wsS RX3 77 yX3_isSmell wsX3_isSmell) := goodIn_app (goodIn_of _ (by decide +kernel)) ggX3_half_X3_isSmell
theorem dX3_half_0 : decode cX3_half 0 = .ok (.iload_n 1, 1) := by decide +kernel
theorem dX3_half_1 : decode cX3_half 1 = .ok (.invokestatic 77, 3) := by decide +kernel
theorem dX3_half_4 : decode cX3_half 4 = .ok (.ifCond .ne 5, 3) := by decide +kernel
theorem dX3_half_7 : decode cX3_half 7 = .ok (.iconst (-1), 1) := by decide +kernel
theorem dX3_half_8 : decode cX3_half 8 = .ok (.ireturn, 1) := by decide +kernel
theorem dX3_half_9 : decode cX3_half 9 = .ok (.iload_n 2, 1) := by decide +kernel
theorem dX3_half_10 : decode cX3_half 10 = .ok (.iconst 1, 1) := by decide +kernel
theorem dX3_half_11 : decode cX3_half 11 = .ok (.if_icmp .lt 9, 3) := by decide +kernel
theorem dX3_half_14 : decode cX3_half 14 = .ok (.iload_n 2, 1) := by decide +kernel
theorem dX3_half_15 : decode cX3_half 15 = .ok (.bipush 9, 2) := by decide +kernel
theorem dX3_half_17 : decode cX3_half 17 = .ok (.if_icmp .le 6, 3) := by decide +kernel
theorem dX3_half_20 : decode cX3_half 20 = .ok (.bipush (-2), 2) := by decide +kernel
theorem dX3_half_22 : decode cX3_half 22 = .ok (.ireturn, 1) := by decide +kernel
theorem dX3_half_23 : decode cX3_half 23 = .ok (.aload_n 0, 1) := by decide +kernel
theorem dX3_half_24 : decode cX3_half 24 = .ok (.getfield 63, 3) := by decide +kernel
theorem dX3_half_27 : decode cX3_half 27 = .ok (.ifCond .ne 6, 3) := by decide +kernel
theorem dX3_half_30 : decode cX3_half 30 = .ok (.bipush (-3), 2) := by decide +kernel
theorem dX3_half_32 : decode cX3_half 32 = .ok (.ireturn, 1) := by decide +kernel
theorem dX3_half_33 : decode cX3_half 33 = .ok (.aload_n 0, 1) := by decide +kernel
theorem dX3_half_34 : decode cX3_half 34 = .ok (.getfield 29, 3) := by decide +kernel
theorem dX3_half_37 : decode cX3_half 37 = .ok (.iload_n 1, 1) := by decide +kernel
theorem dX3_half_38 : decode cX3_half 38 = .ok (.iaload, 1) := by decide +kernel
theorem dX3_half_39 : decode cX3_half 39 = .ok (.istore_n 3, 1) := by decide +kernel
theorem dX3_half_40 : decode cX3_half 40 = .ok (.aload_n 0, 1) := by decide +kernel
theorem dX3_half_41 : decode cX3_half 41 = .ok (.getfield 29, 3) := by decide +kernel
theorem dX3_half_44 : decode cX3_half 44 = .ok (.iload_n 1, 1) := by decide +kernel
theorem dX3_half_45 : decode cX3_half 45 = .ok (.iload_n 2, 1) := by decide +kernel
theorem dX3_half_46 : decode cX3_half 46 = .ok (.iastore, 1) := by decide +kernel
theorem dX3_half_47 : decode cX3_half 47 = .ok (.iload_n 3, 1) := by decide +kernel
theorem dX3_half_48 : decode cX3_half 48 = .ok (.ireturn, 1) := by decide +kernel
theorem dX3_bound_0 : decode cX3_bound 0 = .ok (.iload_n 1, 1) := by decide +kernel
theorem dX3_bound_1 : decode cX3_bound 1 = .ok (.ifCond .lt 10, 3) := by decide +kernel
theorem dX3_bound_4 : decode cX3_bound 4 = .ok (.iload_n 1, 1) := by decide +kernel
theorem dX3_bound_5 : decode cX3_bound 5 = .ok (.sipush 999, 3) := by decide +kernel
theorem dX3_bound_8 : decode cX3_bound 8 = .ok (.if_icmp .le 6, 3) := by decide +kernel
theorem dX3_bound_11 : decode cX3_bound 11 = .ok (.bipush (-2), 2) := by decide +kernel
theorem dX3_bound_13 : decode cX3_bound 13 = .ok (.ireturn, 1) := by decide +kernel
theorem dX3_bound_14 : decode cX3_bound 14 = .ok (.aload_n 0, 1) := by decide +kernel
theorem dX3_bound_15 : decode cX3_bound 15 = .ok (.getfield 63, 3) := by decide +kernel
theorem dX3_bound_18 : decode cX3_bound 18 = .ok (.ifCond .ne 6, 3) := by decide +kernel
theorem dX3_bound_21 : decode cX3_bound 21 = .ok (.bipush (-3), 2) := by decide +kernel
theorem dX3_bound_23 : decode cX3_bound 23 = .ok (.ireturn, 1) := by decide +kernel
theorem dX3_bound_24 : decode cX3_bound 24 = .ok (.aload_n 0, 1) := by decide +kernel
theorem dX3_bound_25 : decode cX3_bound 25 = .ok (.getfield 80, 3) := by decide +kernel
theorem dX3_bound_28 : decode cX3_bound 28 = .ok (.istore_n 2, 1) := by decide +kernel
theorem dX3_bound_29 : decode cX3_bound 29 = .ok (.aload_n 0, 1) := by decide +kernel
theorem dX3_bound_30 : decode cX3_bound 30 = .ok (.iload_n 1, 1) := by decide +kernel
theorem dX3_bound_31 : decode cX3_bound 31 = .ok (.putfield 80, 3) := by decide +kernel
theorem dX3_bound_34 : decode cX3_bound 34 = .ok (.iload_n 2, 1) := by decide +kernel
theorem dX3_bound_35 : decode cX3_bound 35 = .ok (.ireturn, 1) := by decide +kernel
set_option maxRecDepth 20000 in
theorem ggX3_textFault_X3_goesOn : GoodIn wsX3_textFault wsX3_goesOn := goodIn_r _ [4, 5, 6, 3, 7] (by decide +kernel) (by decide +kernel)
set_option maxRecDepth 20000 in
theorem gX3_textFault_X3_goesOn : GoodIn wsX3_textFault (va_wsS RX3 93 yX3_goesOn wsX3_goesOn) := goodIn_app (goodIn_of _ (by decide +kernel)) ggX3_textFault_X3_goesOn
theorem dX3_textFault_0 : decode cX3_textFault 0 = .ok (.iconst 0, 1) := by decide +kernel
theorem dX3_textFault_1 : decode cX3_textFault 1 = .ok (.istore_n 3, 1) := by decide +kernel
theorem dX3_textFault_2 : decode cX3_textFault 2 = .ok (.iload_n 3, 1) := by decide +kernel
theorem dX3_textFault_3 : decode cX3_textFault 3 = .ok (.iload_n 2, 1) := by decide +kernel
theorem dX3_textFault_4 : decode cX3_textFault 4 = .ok (.if_icmp .ge 26, 3) := by decide +kernel
theorem dX3_textFault_7 : decode cX3_textFault 7 = .ok (.aload_n 0, 1) := by decide +kernel
theorem dX3_textFault_8 : decode cX3_textFault 8 = .ok (.getfield 90, 3) := by decide +kernel
theorem dX3_textFault_11 : decode cX3_textFault 11 = .ok (.iload_n 1, 1) := by decide +kernel
theorem dX3_textFault_12 : decode cX3_textFault 12 = .ok (.iload_n 3, 1) := by decide +kernel
theorem dX3_textFault_13 : decode cX3_textFault 13 = .ok (.iadd, 1) := by decide +kernel
theorem dX3_textFault_14 : decode cX3_textFault 14 = .ok (.iaload, 1) := by decide +kernel
theorem dX3_textFault_15 : decode cX3_textFault 15 = .ok (.iload_n 3, 1) := by decide +kernel
theorem dX3_textFault_16 : decode cX3_textFault 16 = .ok (.invokestatic 93, 3) := by decide +kernel
theorem dX3_textFault_19 : decode cX3_textFault 19 = .ok (.ifCond .ne 5, 3) := by decide +kernel
theorem dX3_textFault_22 : decode cX3_textFault 22 = .ok (.iload_n 3, 1) := by decide +kernel
theorem dX3_textFault_23 : decode cX3_textFault 23 = .ok (.ireturn, 1) := by decide +kernel
theorem dX3_textFault_24 : decode cX3_textFault 24 = .ok (.iinc 3 1, 3) := by decide +kernel
theorem dX3_textFault_27 : decode cX3_textFault 27 = .ok (.goto (-25), 3) := by decide +kernel
theorem dX3_textFault_30 : decode cX3_textFault 30 = .ok (.iload_n 2, 1) := by decide +kernel
theorem dX3_textFault_31 : decode cX3_textFault 31 = .ok (.bipush 11, 2) := by decide +kernel
theorem dX3_textFault_33 : decode cX3_textFault 33 = .ok (.irem, 1) := by decide +kernel
theorem dX3_textFault_34 : decode cX3_textFault 34 = .ok (.bipush 10, 2) := by decide +kernel
theorem dX3_textFault_36 : decode cX3_textFault 36 = .ok (.if_icmp .ne 17, 3) := by decide +kernel
theorem dX3_textFault_39 : decode cX3_textFault 39 = .ok (.iload_n 2, 1) := by decide +kernel
theorem dX3_textFault_40 : decode cX3_textFault 40 = .ok (.bipush 11, 2) := by decide +kernel
theorem dX3_textFault_42 : decode cX3_textFault 42 = .ok (.idiv, 1) := by decide +kernel
theorem dX3_textFault_43 : decode cX3_textFault 43 = .ok (.iconst 1, 1) := by decide +kernel
theorem dX3_textFault_44 : decode cX3_textFault 44 = .ok (.iadd, 1) := by decide +kernel
theorem dX3_textFault_45 : decode cX3_textFault 45 = .ok (.iconst 2, 1) := by decide +kernel
theorem dX3_textFault_46 : decode cX3_textFault 46 = .ok (.if_icmp .lt 7, 3) := by decide +kernel
theorem dX3_textFault_49 : decode cX3_textFault 49 = .ok (.iconst 1, 1) := by decide +kernel
theorem dX3_textFault_50 : decode cX3_textFault 50 = .ok (.goto 4, 3) := by decide +kernel
theorem dX3_textFault_53 : decode cX3_textFault 53 = .ok (.iconst 0, 1) := by decide +kernel
theorem dX3_textFault_54 : decode cX3_textFault 54 = .ok (.istore_n 3, 1) := by decide +kernel
theorem dX3_textFault_55 : decode cX3_textFault 55 = .ok (.iload_n 3, 1) := by decide +kernel
theorem dX3_textFault_56 : decode cX3_textFault 56 = .ok (.ifCond .eq 7, 3) := by decide +kernel
theorem dX3_textFault_59 : decode cX3_textFault 59 = .ok (.iconst (-1), 1) := by decide +kernel
theorem dX3_textFault_60 : decode cX3_textFault 60 = .ok (.goto 4, 3) := by decide +kernel
theorem dX3_textFault_63 : decode cX3_textFault 63 = .ok (.iload_n 2, 1) := by decide +kernel
theorem dX3_textFault_64 : decode cX3_textFault 64 = .ok (.ireturn, 1) := by decide +kernel
set_option maxRecDepth 20000 in
theorem ggX3_goesOn_X3_kindOf : GoodIn wsX3_goesOn wsX3_kindOf := goodIn_r _ [4] (by decide +kernel) (by decide +kernel)
set_option maxRecDepth 20000 in
theorem gX3_goesOn_X3_kindOf : GoodIn wsX3_goesOn (va_wsS RX3 97 yX3_kindOf wsX3_kindOf) := goodIn_app (goodIn_of _ (by decide +kernel)) ggX3_goesOn_X3_kindOf
theorem dX3_goesOn_0 : decode cX3_goesOn 0 = .ok (.iload_n 1, 1) := by decide +kernel
theorem dX3_goesOn_1 : decode cX3_goesOn 1 = .ok (.bipush 11, 2) := by decide +kernel
theorem dX3_goesOn_3 : decode cX3_goesOn 3 = .ok (.irem, 1) := by decide +kernel
theorem dX3_goesOn_4 : decode cX3_goesOn 4 = .ok (.istore_n 2, 1) := by decide +kernel
theorem dX3_goesOn_5 : decode cX3_goesOn 5 = .ok (.iload_n 2, 1) := by decide +kernel
theorem dX3_goesOn_6 : decode cX3_goesOn 6 = .ok (.ifCond .ne 16, 3) := by decide +kernel
theorem dX3_goesOn_9 : decode cX3_goesOn 9 = .ok (.iload_n 0, 1) := by decide +kernel
theorem dX3_goesOn_10 : decode cX3_goesOn 10 = .ok (.invokestatic 97, 3) := by decide +kernel
theorem dX3_goesOn_13 : decode cX3_goesOn 13 = .ok (.ifCond .lt 7, 3) := by decide +kernel
theorem dX3_goesOn_16 : decode cX3_goesOn 16 = .ok (.iconst 1, 1) := by decide +kernel
theorem dX3_goesOn_17 : decode cX3_goesOn 17 = .ok (.goto 4, 3) := by decide +kernel
theorem dX3_goesOn_20 : decode cX3_goesOn 20 = .ok (.iconst 0, 1) := by decide +kernel
theorem dX3_goesOn_21 : decode cX3_goesOn 21 = .ok (.ireturn, 1) := by decide +kernel
theorem dX3_goesOn_22 : decode cX3_goesOn 22 = .ok (.iload_n 2, 1) := by decide +kernel
theorem dX3_goesOn_23 : decode cX3_goesOn 23 = .ok (.bipush 10, 2) := by decide +kernel
theorem dX3_goesOn_25 : decode cX3_goesOn 25 = .ok (.if_icmp .ne 26, 3) := by decide +kernel
theorem dX3_goesOn_28 : decode cX3_goesOn 28 = .ok (.iload_n 0, 1) := by decide +kernel
theorem dX3_goesOn_29 : decode cX3_goesOn 29 = .ok (.bipush 59, 2) := by decide +kernel
theorem dX3_goesOn_31 : decode cX3_goesOn 31 = .ok (.if_icmp .ne 18, 3) := by decide +kernel
theorem dX3_goesOn_34 : decode cX3_goesOn 34 = .ok (.iload_n 1, 1) := by decide +kernel
theorem dX3_goesOn_35 : decode cX3_goesOn 35 = .ok (.bipush 11, 2) := by decide +kernel
theorem dX3_goesOn_37 : decode cX3_goesOn 37 = .ok (.idiv, 1) := by decide +kernel
theorem dX3_goesOn_38 : decode cX3_goesOn 38 = .ok (.iconst 1, 1) := by decide +kernel
theorem dX3_goesOn_39 : decode cX3_goesOn 39 = .ok (.iadd, 1) := by decide +kernel
theorem dX3_goesOn_40 : decode cX3_goesOn 40 = .ok (.bipush 8, 2) := by decide +kernel
theorem dX3_goesOn_42 : decode cX3_goesOn 42 = .ok (.if_icmp .ge 7, 3) := by decide +kernel
theorem dX3_goesOn_45 : decode cX3_goesOn 45 = .ok (.iconst 1, 1) := by decide +kernel
theorem dX3_goesOn_46 : decode cX3_goesOn 46 = .ok (.goto 4, 3) := by decide +kernel
theorem dX3_goesOn_49 : decode cX3_goesOn 49 = .ok (.iconst 0, 1) := by decide +kernel
theorem dX3_goesOn_50 : decode cX3_goesOn 50 = .ok (.ireturn, 1) := by decide +kernel
theorem dX3_goesOn_51 : decode cX3_goesOn 51 = .ok (.iload_n 0, 1) := by decide +kernel
theorem dX3_goesOn_52 : decode cX3_goesOn 52 = .ok (.bipush 48, 2) := by decide +kernel
theorem dX3_goesOn_54 : decode cX3_goesOn 54 = .ok (.if_icmp .lt 13, 3) := by decide +kernel
theorem dX3_goesOn_57 : decode cX3_goesOn 57 = .ok (.iload_n 0, 1) := by decide +kernel
theorem dX3_goesOn_58 : decode cX3_goesOn 58 = .ok (.bipush 57, 2) := by decide +kernel
theorem dX3_goesOn_60 : decode cX3_goesOn 60 = .ok (.if_icmp .gt 7, 3) := by decide +kernel
theorem dX3_goesOn_63 : decode cX3_goesOn 63 = .ok (.iconst 1, 1) := by decide +kernel
theorem dX3_goesOn_64 : decode cX3_goesOn 64 = .ok (.goto 4, 3) := by decide +kernel
theorem dX3_goesOn_67 : decode cX3_goesOn 67 = .ok (.iconst 0, 1) := by decide +kernel
theorem dX3_goesOn_68 : decode cX3_goesOn 68 = .ok (.ireturn, 1) := by decide +kernel
theorem dX3_kindOf_0 : decode cX3_kindOf 0 = .ok (.iload_n 0, 1) := by decide +kernel
theorem dX3_kindOf_1 : decode cX3_kindOf 1 = .ok (.lookupswitch 41 #[(102, 37), (112, 35), (115, 39)], 35) := by decide +kernel
theorem dX3_kindOf_36 : decode cX3_kindOf 36 = .ok (.iconst 0, 1) := by decide +kernel
theorem dX3_kindOf_37 : decode cX3_kindOf 37 = .ok (.ireturn, 1) := by decide +kernel
theorem dX3_kindOf_38 : decode cX3_kindOf 38 = .ok (.iconst 1, 1) := by decide +kernel
theorem dX3_kindOf_39 : decode cX3_kindOf 39 = .ok (.ireturn, 1) := by decide +kernel
theorem dX3_kindOf_40 : decode cX3_kindOf 40 = .ok (.iconst 2, 1) := by decide +kernel
theorem dX3_kindOf_41 : decode cX3_kindOf 41 = .ok (.ireturn, 1) := by decide +kernel
theorem dX3_kindOf_42 : decode cX3_kindOf 42 = .ok (.iconst (-1), 1) := by decide +kernel
theorem dX3_kindOf_43 : decode cX3_kindOf 43 = .ok (.ireturn, 1) := by decide +kernel
set_option maxRecDepth 20000 in
theorem ggX3_takeText_X3_kindOf : GoodIn wsX3_takeText wsX3_kindOf := goodIn_r _ [6] (by decide +kernel) (by decide +kernel)
set_option maxRecDepth 20000 in
theorem gX3_takeText_X3_kindOf : GoodIn wsX3_takeText (va_wsS RX3 97 yX3_kindOf wsX3_kindOf) := goodIn_app (goodIn_of _ (by decide +kernel)) ggX3_takeText_X3_kindOf
theorem dX3_takeText_0 : decode cX3_takeText 0 = .ok (.aload_n 0, 1) := by decide +kernel
theorem dX3_takeText_1 : decode cX3_takeText 1 = .ok (.iload_n 3, 1) := by decide +kernel
theorem dX3_takeText_2 : decode cX3_takeText 2 = .ok (.bipush 11, 2) := by decide +kernel
theorem dX3_takeText_4 : decode cX3_takeText 4 = .ok (.idiv, 1) := by decide +kernel
theorem dX3_takeText_5 : decode cX3_takeText 5 = .ok (.iconst 1, 1) := by decide +kernel
theorem dX3_takeText_6 : decode cX3_takeText 6 = .ok (.iadd, 1) := by decide +kernel
theorem dX3_takeText_7 : decode cX3_takeText 7 = .ok (.putfield 63, 3) := by decide +kernel
theorem dX3_takeText_10 : decode cX3_takeText 10 = .ok (.iconst 0, 1) := by decide +kernel
theorem dX3_takeText_11 : decode cX3_takeText 11 = .ok (.istore 4, 2) := by decide +kernel
theorem dX3_takeText_13 : decode cX3_takeText 13 = .ok (.iload 4, 2) := by decide +kernel
theorem dX3_takeText_15 : decode cX3_takeText 15 = .ok (.aload_n 0, 1) := by decide +kernel
theorem dX3_takeText_16 : decode cX3_takeText 16 = .ok (.getfield 63, 3) := by decide +kernel
theorem dX3_takeText_19 : decode cX3_takeText 19 = .ok (.if_icmp .ge 114, 3) := by decide +kernel
theorem dX3_takeText_22 : decode cX3_takeText 22 = .ok (.iload_n 2, 1) := by decide +kernel
theorem dX3_takeText_23 : decode cX3_takeText 23 = .ok (.iload 4, 2) := by decide +kernel
theorem dX3_takeText_25 : decode cX3_takeText 25 = .ok (.bipush 11, 2) := by decide +kernel
theorem dX3_takeText_27 : decode cX3_takeText 27 = .ok (.imul, 1) := by decide +kernel
theorem dX3_takeText_28 : decode cX3_takeText 28 = .ok (.iadd, 1) := by decide +kernel
theorem dX3_takeText_29 : decode cX3_takeText 29 = .ok (.istore 5, 2) := by decide +kernel
theorem dX3_takeText_31 : decode cX3_takeText 31 = .ok (.aload_n 0, 1) := by decide +kernel
theorem dX3_takeText_32 : decode cX3_takeText 32 = .ok (.getfield 19, 3) := by decide +kernel
theorem dX3_takeText_35 : decode cX3_takeText 35 = .ok (.iload 4, 2) := by decide +kernel
theorem dX3_takeText_37 : decode cX3_takeText 37 = .ok (.aaload, 1) := by decide +kernel
theorem dX3_takeText_38 : decode cX3_takeText 38 = .ok (.aload_n 1, 1) := by decide +kernel
theorem dX3_takeText_39 : decode cX3_takeText 39 = .ok (.getfield 90, 3) := by decide +kernel
theorem dX3_takeText_42 : decode cX3_takeText 42 = .ok (.iload 5, 2) := by decide +kernel
theorem dX3_takeText_44 : decode cX3_takeText 44 = .ok (.iaload, 1) := by decide +kernel
theorem dX3_takeText_45 : decode cX3_takeText 45 = .ok (.invokestatic 97, 3) := by decide +kernel
theorem dX3_takeText_48 : decode cX3_takeText 48 = .ok (.putfield 71, 3) := by decide +kernel
theorem dX3_takeText_51 : decode cX3_takeText 51 = .ok (.aload_n 0, 1) := by decide +kernel
theorem dX3_takeText_52 : decode cX3_takeText 52 = .ok (.getfield 19, 3) := by decide +kernel
theorem dX3_takeText_55 : decode cX3_takeText 55 = .ok (.iload 4, 2) := by decide +kernel
theorem dX3_takeText_57 : decode cX3_takeText 57 = .ok (.aaload, 1) := by decide +kernel
theorem dX3_takeText_58 : decode cX3_takeText 58 = .ok (.iconst 0, 1) := by decide +kernel
theorem dX3_takeText_59 : decode cX3_takeText 59 = .ok (.putfield 101, 3) := by decide +kernel
theorem dX3_takeText_62 : decode cX3_takeText 62 = .ok (.iconst 0, 1) := by decide +kernel
theorem dX3_takeText_63 : decode cX3_takeText 63 = .ok (.istore 6, 2) := by decide +kernel
theorem dX3_takeText_65 : decode cX3_takeText 65 = .ok (.iload 6, 2) := by decide +kernel
theorem dX3_takeText_67 : decode cX3_takeText 67 = .ok (.bipush 9, 2) := by decide +kernel
theorem dX3_takeText_69 : decode cX3_takeText 69 = .ok (.if_icmp .ge 58, 3) := by decide +kernel
theorem dX3_takeText_72 : decode cX3_takeText 72 = .ok (.aload_n 1, 1) := by decide +kernel
theorem dX3_takeText_73 : decode cX3_takeText 73 = .ok (.getfield 90, 3) := by decide +kernel
theorem dX3_takeText_76 : decode cX3_takeText 76 = .ok (.iload 5, 2) := by decide +kernel
theorem dX3_takeText_78 : decode cX3_takeText 78 = .ok (.iconst 1, 1) := by decide +kernel
theorem dX3_takeText_79 : decode cX3_takeText 79 = .ok (.iadd, 1) := by decide +kernel
theorem dX3_takeText_80 : decode cX3_takeText 80 = .ok (.iload 6, 2) := by decide +kernel
theorem dX3_takeText_82 : decode cX3_takeText 82 = .ok (.iadd, 1) := by decide +kernel
theorem dX3_takeText_83 : decode cX3_takeText 83 = .ok (.iaload, 1) := by decide +kernel
theorem dX3_takeText_84 : decode cX3_takeText 84 = .ok (.bipush 48, 2) := by decide +kernel
theorem dX3_takeText_86 : decode cX3_takeText 86 = .ok (.isub, 1) := by decide +kernel
theorem dX3_takeText_87 : decode cX3_takeText 87 = .ok (.istore 7, 2) := by decide +kernel
theorem dX3_takeText_89 : decode cX3_takeText 89 = .ok (.aload_n 0, 1) := by decide +kernel
theorem dX3_takeText_90 : decode cX3_takeText 90 = .ok (.getfield 19, 3) := by decide +kernel
theorem dX3_takeText_93 : decode cX3_takeText 93 = .ok (.iload 4, 2) := by decide +kernel
theorem dX3_takeText_95 : decode cX3_takeText 95 = .ok (.aaload, 1) := by decide +kernel
theorem dX3_takeText_96 : decode cX3_takeText 96 = .ok (.getfield 74, 3) := by decide +kernel
theorem dX3_takeText_99 : decode cX3_takeText 99 = .ok (.iload 6, 2) := by decide +kernel
theorem dX3_takeText_101 : decode cX3_takeText 101 = .ok (.iload 7, 2) := by decide +kernel
theorem dX3_takeText_103 : decode cX3_takeText 103 = .ok (.iastore, 1) := by decide +kernel
theorem dX3_takeText_104 : decode cX3_takeText 104 = .ok (.aload_n 0, 1) := by decide +kernel
theorem dX3_takeText_105 : decode cX3_takeText 105 = .ok (.getfield 19, 3) := by decide +kernel
theorem dX3_takeText_108 : decode cX3_takeText 108 = .ok (.iload 4, 2) := by decide +kernel
theorem dX3_takeText_110 : decode cX3_takeText 110 = .ok (.aaload, 1) := by decide +kernel
theorem dX3_takeText_111 : decode cX3_takeText 111 = .ok (.dup, 1) := by decide +kernel
theorem dX3_takeText_112 : decode cX3_takeText 112 = .ok (.getfield 101, 3) := by decide +kernel
theorem dX3_takeText_115 : decode cX3_takeText 115 = .ok (.iload 7, 2) := by decide +kernel
theorem dX3_takeText_117 : decode cX3_takeText 117 = .ok (.iadd, 1) := by decide +kernel
theorem dX3_takeText_118 : decode cX3_takeText 118 = .ok (.putfield 101, 3) := by decide +kernel
theorem dX3_takeText_121 : decode cX3_takeText 121 = .ok (.iinc 6 1, 3) := by decide +kernel
theorem dX3_takeText_124 : decode cX3_takeText 124 = .ok (.goto (-59), 3) := by decide +kernel
theorem dX3_takeText_127 : decode cX3_takeText 127 = .ok (.iinc 4 1, 3) := by decide +kernel
theorem dX3_takeText_130 : decode cX3_takeText 130 = .ok (.goto (-117), 3) := by decide +kernel
theorem dX3_takeText_133 : decode cX3_takeText 133 = .ok (.return_, 1) := by decide +kernel
set_option maxRecDepth 20000 in
theorem ggX3_startAnew_J7_fill_53178 : GoodIn wsX3_startAnew wsJ7_fill_53178 := goodIn_r _ [9] (by decide +kernel) (by decide +kernel)
set_option maxRecDepth 20000 in
theorem gX3_startAnew_J7_fill_53178 : GoodIn wsX3_startAnew (va_wsS RX3 107 yJ7_fill_53178 wsJ7_fill_53178) := goodIn_app (goodIn_of _ (by decide +kernel)) ggX3_startAnew_J7_fill_53178
theorem dX3_startAnew_0 : decode cX3_startAnew 0 = .ok (.aload_n 0, 1) := by decide +kernel
theorem dX3_startAnew_1 : decode cX3_startAnew 1 = .ok (.iconst 0, 1) := by decide +kernel
theorem dX3_startAnew_2 : decode cX3_startAnew 2 = .ok (.putfield 104, 3) := by decide +kernel
theorem dX3_startAnew_5 : decode cX3_startAnew 5 = .ok (.aload_n 0, 1) := by decide +kernel
theorem dX3_startAnew_6 : decode cX3_startAnew 6 = .ok (.iconst 0, 1) := by decide +kernel
theorem dX3_startAnew_7 : decode cX3_startAnew 7 = .ok (.putfield 83, 3) := by decide +kernel
theorem dX3_startAnew_10 : decode cX3_startAnew 10 = .ok (.aload_n 0, 1) := by decide +kernel
theorem dX3_startAnew_11 : decode cX3_startAnew 11 = .ok (.bipush 40, 2) := by decide +kernel
theorem dX3_startAnew_13 : decode cX3_startAnew 13 = .ok (.putfield 80, 3) := by decide +kernel
theorem dX3_startAnew_16 : decode cX3_startAnew 16 = .ok (.aload_n 0, 1) := by decide +kernel
theorem dX3_startAnew_17 : decode cX3_startAnew 17 = .ok (.getfield 29, 3) := by decide +kernel
theorem dX3_startAnew_20 : decode cX3_startAnew 20 = .ok (.iconst 5, 1) := by decide +kernel
theorem dX3_startAnew_21 : decode cX3_startAnew 21 = .ok (.invokestatic 107, 3) := by decide +kernel
theorem dX3_startAnew_24 : decode cX3_startAnew 24 = .ok (.aload_n 0, 1) := by decide +kernel
theorem dX3_startAnew_25 : decode cX3_startAnew 25 = .ok (.getfield 42, 3) := by decide +kernel
theorem dX3_startAnew_28 : decode cX3_startAnew 28 = .ok (.iconst 0, 1) := by decide +kernel
theorem dX3_startAnew_29 : decode cX3_startAnew 29 = .ok (.iconst (-1), 1) := by decide +kernel
theorem dX3_startAnew_30 : decode cX3_startAnew 30 = .ok (.iastore, 1) := by decide +kernel
theorem dX3_startAnew_31 : decode cX3_startAnew 31 = .ok (.return_, 1) := by decide +kernel
theorem dX3_fade_0 : decode cX3_fade 0 = .ok (.aload_n 0, 1) := by decide +kernel
theorem dX3_fade_1 : decode cX3_fade 1 = .ok (.getfield 29, 3) := by decide +kernel
theorem dX3_fade_4 : decode cX3_fade 4 = .ok (.iload_n 2, 1) := by decide +kernel
theorem dX3_fade_5 : decode cX3_fade 5 = .ok (.iaload, 1) := by decide +kernel
theorem dX3_fade_6 : decode cX3_fade 6 = .ok (.istore 5, 2) := by decide +kernel
theorem dX3_fade_8 : decode cX3_fade 8 = .ok (.aload_n 1, 1) := by decide +kernel
theorem dX3_fade_9 : decode cX3_fade 9 = .ok (.getfield 71, 3) := by decide +kernel
theorem dX3_fade_12 : decode cX3_fade 12 = .ok (.iconst 2, 1) := by decide +kernel
theorem dX3_fade_13 : decode cX3_fade 13 = .ok (.if_icmp .eq 9, 3) := by decide +kernel
theorem dX3_fade_16 : decode cX3_fade 16 = .ok (.iload 5, 2) := by decide +kernel
theorem dX3_fade_18 : decode cX3_fade 18 = .ok (.iconst 1, 1) := by decide +kernel
theorem dX3_fade_19 : decode cX3_fade 19 = .ok (.if_icmp .ge 5, 3) := by decide +kernel
theorem dX3_fade_22 : decode cX3_fade 22 = .ok (.iload_n 3, 1) := by decide +kernel
theorem dX3_fade_23 : decode cX3_fade 23 = .ok (.ireturn, 1) := by decide +kernel
theorem dX3_fade_24 : decode cX3_fade 24 = .ok (.iload 4, 2) := by decide +kernel
theorem dX3_fade_26 : decode cX3_fade 26 = .ok (.iload 5, 2) := by decide +kernel
theorem dX3_fade_28 : decode cX3_fade 28 = .ok (.idiv, 1) := by decide +kernel
theorem dX3_fade_29 : decode cX3_fade 29 = .ok (.istore 6, 2) := by decide +kernel
theorem dX3_fade_31 : decode cX3_fade 31 = .ok (.aload_n 1, 1) := by decide +kernel
theorem dX3_fade_32 : decode cX3_fade 32 = .ok (.getfield 71, 3) := by decide +kernel
theorem dX3_fade_35 : decode cX3_fade 35 = .ok (.iconst 1, 1) := by decide +kernel
theorem dX3_fade_36 : decode cX3_fade 36 = .ok (.if_icmp .ne 10, 3) := by decide +kernel
theorem dX3_fade_39 : decode cX3_fade 39 = .ok (.iload 6, 2) := by decide +kernel
theorem dX3_fade_41 : decode cX3_fade 41 = .ok (.iconst 2, 1) := by decide +kernel
theorem dX3_fade_42 : decode cX3_fade 42 = .ok (.idiv, 1) := by decide +kernel
theorem dX3_fade_43 : decode cX3_fade 43 = .ok (.goto 5, 3) := by decide +kernel
theorem dX3_fade_46 : decode cX3_fade 46 = .ok (.iload 6, 2) := by decide +kernel
theorem dX3_fade_48 : decode cX3_fade 48 = .ok (.istore 7, 2) := by decide +kernel
theorem dX3_fade_50 : decode cX3_fade 50 = .ok (.iload_n 3, 1) := by decide +kernel
theorem dX3_fade_51 : decode cX3_fade 51 = .ok (.iload 7, 2) := by decide +kernel
theorem dX3_fade_53 : decode cX3_fade 53 = .ok (.bipush 31, 2) := by decide +kernel
theorem dX3_fade_55 : decode cX3_fade 55 = .ok (.invokestatic 113, 3) := by decide +kernel
theorem dX3_fade_58 : decode cX3_fade 58 = .ok (.ishr, 1) := by decide +kernel
theorem dX3_fade_59 : decode cX3_fade 59 = .ok (.ireturn, 1) := by decide +kernel
theorem dX3_isSign_0 : decode cX3_isSign 0 = .ok (.iload_n 1, 1) := by decide +kernel
theorem dX3_isSign_1 : decode cX3_isSign 1 = .ok (.ifCond .lt 15, 3) := by decide +kernel
theorem dX3_isSign_4 : decode cX3_isSign 4 = .ok (.iload_n 1, 1) := by decide +kernel
theorem dX3_isSign_5 : decode cX3_isSign 5 = .ok (.aload_n 0, 1) := by decide +kernel
theorem dX3_isSign_6 : decode cX3_isSign 6 = .ok (.getfield 63, 3) := by decide +kernel
theorem dX3_isSign_9 : decode cX3_isSign 9 = .ok (.if_icmp .ge 7, 3) := by decide +kernel
theorem dX3_isSign_12 : decode cX3_isSign 12 = .ok (.iconst 1, 1) := by decide +kernel
theorem dX3_isSign_13 : decode cX3_isSign 13 = .ok (.goto 4, 3) := by decide +kernel
theorem dX3_isSign_16 : decode cX3_isSign 16 = .ok (.iconst 0, 1) := by decide +kernel
theorem dX3_isSign_17 : decode cX3_isSign 17 = .ok (.ireturn, 1) := by decide +kernel
set_option maxRecDepth 20000 in
theorem ggX3_areTwoSigns_X3_isSign : GoodIn wsX3_areTwoSigns wsX3_isSign := goodIn_r _ [5, 6, 7, 8, 9, 10, 11, 12, 13, 14, 15, 16, 17, 18, 19, 20] (by decide +kernel) (by decide +kernel)
set_option maxRecDepth 20000 in
theorem gX3_areTwoSigns_X3_isSign : GoodIn wsX3_areTwoSigns (wsV RX3 67 RX3 yX3_isSign wsX3_isSign) := goodIn_app (goodIn_of _ (by decide +kernel)) ggX3_areTwoSigns_X3_isSign
theorem dX3_areTwoSigns_0 : decode cX3_areTwoSigns 0 = .ok (.aload_n 0, 1) := by decide +kernel
theorem dX3_areTwoSigns_1 : decode cX3_areTwoSigns 1 = .ok (.iload_n 1, 1) := by decide +kernel
theorem dX3_areTwoSigns_2 : decode cX3_areTwoSigns 2 = .ok (.invokevirtual 67, 3) := by decide +kernel
theorem dX3_areTwoSigns_5 : decode cX3_areTwoSigns 5 = .ok (.ifCond .eq 20, 3) := by decide +kernel
theorem dX3_areTwoSigns_8 : decode cX3_areTwoSigns 8 = .ok (.aload_n 0, 1) := by decide +kernel
theorem dX3_areTwoSigns_9 : decode cX3_areTwoSigns 9 = .ok (.iload_n 2, 1) := by decide +kernel
theorem dX3_areTwoSigns_10 : decode cX3_areTwoSigns 10 = .ok (.invokevirtual 67, 3) := by decide +kernel
theorem dX3_areTwoSigns_13 : decode cX3_areTwoSigns 13 = .ok (.ifCond .eq 12, 3) := by decide +kernel
theorem dX3_areTwoSigns_16 : decode cX3_areTwoSigns 16 = .ok (.iload_n 1, 1) := by decide +kernel
theorem dX3_areTwoSigns_17 : decode cX3_areTwoSigns 17 = .ok (.iload_n 2, 1) := by decide +kernel
theorem dX3_areTwoSigns_18 : decode cX3_areTwoSigns 18 = .ok (.if_icmp .eq 7, 3) := by decide +kernel
theorem dX3_areTwoSigns_21 : decode cX3_areTwoSigns 21 = .ok (.iconst 1, 1) := by decide +kernel
theorem dX3_areTwoSigns_22 : decode cX3_areTwoSigns 22 = .ok (.goto 4, 3) := by decide +kernel
theorem dX3_areTwoSigns_25 : decode cX3_areTwoSigns 25 = .ok (.iconst 0, 1) := by decide +kernel
theorem dX3_areTwoSigns_26 : decode cX3_areTwoSigns 26 = .ok (.ireturn, 1) := by decide +kernel
theorem dX3_isSmell_0 : decode cX3_isSmell 0 = .ok (.iload_n 0, 1) := by decide +kernel
theorem dX3_isSmell_1 : decode cX3_isSmell 1 = .ok (.ifCond .lt 13, 3) := by decide +kernel
theorem dX3_isSmell_4 : decode cX3_isSmell 4 = .ok (.iload_n 0, 1) := by decide +kernel
theorem dX3_isSmell_5 : decode cX3_isSmell 5 = .ok (.bipush 9, 2) := by decide +kernel
theorem dX3_isSmell_7 : decode cX3_isSmell 7 = .ok (.if_icmp .ge 7, 3) := by decide +kernel
theorem dX3_isSmell_10 : decode cX3_isSmell 10 = .ok (.iconst 1, 1) := by decide +kernel
theorem dX3_isSmell_11 : decode cX3_isSmell 11 = .ok (.goto 4, 3) := by decide +kernel
theorem dX3_isSmell_14 : decode cX3_isSmell 14 = .ok (.iconst 0, 1) := by decide +kernel
theorem dX3_isSmell_15 : decode cX3_isSmell 15 = .ok (.ireturn, 1) := by decide +kernel
theorem dX3_pairNumber_0 : decode cX3_pairNumber 0 = .ok (.bipush 10, 2) := by decide +kernel
theorem dX3_pairNumber_2 : decode cX3_pairNumber 2 = .ok (.iload_n 0, 1) := by decide +kernel
theorem dX3_pairNumber_3 : decode cX3_pairNumber 3 = .ok (.imul, 1) := by decide +kernel
theorem dX3_pairNumber_4 : decode cX3_pairNumber 4 = .ok (.iload_n 1, 1) := by decide +kernel
theorem dX3_pairNumber_5 : decode cX3_pairNumber 5 = .ok (.iadd, 1) := by decide +kernel
theorem dX3_pairNumber_6 : decode cX3_pairNumber 6 = .ok (.ireturn, 1) := by decide +kernel
set_option maxRecDepth 20000 in
theorem ggX3_apart_X3_isSign : GoodIn wsX3_apart wsX3_isSign := goodIn_r _ [6, 7, 15, 16, 17, 18, 19, 20, 21, 22, 23, 24, 25, 26, 27, 28] (by decide +kernel) (by decide +kernel)
set_option maxRecDepth 20000 in
theorem gX3_apart_X3_isSign : GoodIn wsX3_apart (wsV RX3 67 RX3 yX3_isSign wsX3_isSign) := goodIn_app (goodIn_of _ (by decide +kernel)) ggX3_apart_X3_isSign
set_option maxRecDepth 20000 in
theorem ggX3_apart_X3_apartOf : GoodIn wsX3_apart wsX3_apartOf := goodIn_r _ [10, 11, 12, 13, 14] (by decide +kernel) (by decide +kernel)
set_option maxRecDepth 20000 in
theorem gX3_apart_X3_apartOf : GoodIn wsX3_apart (va_wsS RX3 175 yX3_apartOf wsX3_apartOf) := goodIn_app (goodIn_of _ (by decide +kernel)) ggX3_apart_X3_apartOf
theorem dX3_apart_0 : decode cX3_apart 0 = .ok (.aload_n 0, 1) := by decide +kernel
theorem dX3_apart_1 : decode cX3_apart 1 = .ok (.iload_n 1, 1) := by decide +kernel
theorem dX3_apart_2 : decode cX3_apart 2 = .ok (.invokevirtual 67, 3) := by decide +kernel
theorem dX3_apart_5 : decode cX3_apart 5 = .ok (.ifCond .eq 11, 3) := by decide +kernel
theorem dX3_apart_8 : decode cX3_apart 8 = .ok (.aload_n 0, 1) := by decide +kernel
theorem dX3_apart_9 : decode cX3_apart 9 = .ok (.iload_n 2, 1) := by decide +kernel
theorem dX3_apart_10 : decode cX3_apart 10 = .ok (.invokevirtual 67, 3) := by decide +kernel
theorem dX3_apart_13 : decode cX3_apart 13 = .ok (.ifCond .ne 5, 3) := by decide +kernel
theorem dX3_apart_16 : decode cX3_apart 16 = .ok (.iconst (-1), 1) := by decide +kernel
theorem dX3_apart_17 : decode cX3_apart 17 = .ok (.ireturn, 1) := by decide +kernel
theorem dX3_apart_18 : decode cX3_apart 18 = .ok (.aload_n 0, 1) := by decide +kernel
theorem dX3_apart_19 : decode cX3_apart 19 = .ok (.getfield 19, 3) := by decide +kernel
theorem dX3_apart_22 : decode cX3_apart 22 = .ok (.iload_n 1, 1) := by decide +kernel
theorem dX3_apart_23 : decode cX3_apart 23 = .ok (.aaload, 1) := by decide +kernel
theorem dX3_apart_24 : decode cX3_apart 24 = .ok (.getfield 74, 3) := by decide +kernel
theorem dX3_apart_27 : decode cX3_apart 27 = .ok (.aload_n 0, 1) := by decide +kernel
theorem dX3_apart_28 : decode cX3_apart 28 = .ok (.getfield 19, 3) := by decide +kernel
theorem dX3_apart_31 : decode cX3_apart 31 = .ok (.iload_n 2, 1) := by decide +kernel
theorem dX3_apart_32 : decode cX3_apart 32 = .ok (.aaload, 1) := by decide +kernel
theorem dX3_apart_33 : decode cX3_apart 33 = .ok (.getfield 74, 3) := by decide +kernel
theorem dX3_apart_36 : decode cX3_apart 36 = .ok (.invokestatic 175, 3) := by decide +kernel
theorem dX3_apart_39 : decode cX3_apart 39 = .ok (.ireturn, 1) := by decide +kernel
set_option maxRecDepth 20000 in
theorem ggX3_twins_X3_areAlike : GoodIn wsX3_twins wsX3_areAlike := goodIn_r _ [7, 8, 9, 10, 6, 11, 12, 13, 14, 15, 19, 20, 21, 22, 23, 24, 25, 26, 27, 28, 29, 30, 31, 32] (by decide +kernel) (by decide +kernel)
set_option maxRecDepth 20000 in
theorem gX3_twins_X3_areAlike : GoodIn wsX3_twins (wsV RX3 179 RX3 yX3_areAlike wsX3_areAlike) := goodIn_app (goodIn_of _ (by decide +kernel)) ggX3_twins_X3_areAlike
set_option maxRecDepth 20000 in
theorem ggX3_twins_X3_pairNumber : GoodIn wsX3_twins wsX3_pairNumber := goodIn_r _ [18] (by decide +kernel) (by decide +kernel)
set_option maxRecDepth 20000 in
theorem gX3_twins_X3_pairNumber : GoodIn wsX3_twins (va_wsS RX3 159 yX3_pairNumber wsX3_pairNumber) := goodIn_app (goodIn_of _ (by decide +kernel)) ggX3_twins_X3_pairNumber
theorem dX3_twins_0 : decode cX3_twins 0 = .ok (.iload_n 1, 1) := by decide +kernel
theorem dX3_twins_1 : decode cX3_twins 1 = .ok (.iconst (-1), 1) := by decide +kernel
theorem dX3_twins_2 : decode cX3_twins 2 = .ok (.if_icmp .ge 5, 3) := by decide +kernel
theorem dX3_twins_5 : decode cX3_twins 5 = .ok (.iconst (-1), 1) := by decide +kernel
theorem dX3_twins_6 : decode cX3_twins 6 = .ok (.ireturn, 1) := by decide +kernel
theorem dX3_twins_7 : decode cX3_twins 7 = .ok (.iconst 0, 1) := by decide +kernel
theorem dX3_twins_8 : decode cX3_twins 8 = .ok (.istore_n 2, 1) := by decide +kernel
theorem dX3_twins_9 : decode cX3_twins 9 = .ok (.iconst 0, 1) := by decide +kernel
theorem dX3_twins_10 : decode cX3_twins 10 = .ok (.istore_n 3, 1) := by decide +kernel
theorem dX3_twins_11 : decode cX3_twins 11 = .ok (.iload_n 3, 1) := by decide +kernel
theorem dX3_twins_12 : decode cX3_twins 12 = .ok (.aload_n 0, 1) := by decide +kernel
theorem dX3_twins_13 : decode cX3_twins 13 = .ok (.getfield 63, 3) := by decide +kernel
theorem dX3_twins_16 : decode cX3_twins 16 = .ok (.if_icmp .ge 70, 3) := by decide +kernel
theorem dX3_twins_19 : decode cX3_twins 19 = .ok (.iload_n 3, 1) := by decide +kernel
theorem dX3_twins_20 : decode cX3_twins 20 = .ok (.iconst 1, 1) := by decide +kernel
theorem dX3_twins_21 : decode cX3_twins 21 = .ok (.iadd, 1) := by decide +kernel
theorem dX3_twins_22 : decode cX3_twins 22 = .ok (.istore 4, 2) := by decide +kernel
theorem dX3_twins_24 : decode cX3_twins 24 = .ok (.iload 4, 2) := by decide +kernel
theorem dX3_twins_26 : decode cX3_twins 26 = .ok (.aload_n 0, 1) := by decide +kernel
theorem dX3_twins_27 : decode cX3_twins 27 = .ok (.getfield 63, 3) := by decide +kernel
theorem dX3_twins_30 : decode cX3_twins 30 = .ok (.if_icmp .ge 50, 3) := by decide +kernel
theorem dX3_twins_33 : decode cX3_twins 33 = .ok (.aload_n 0, 1) := by decide +kernel
theorem dX3_twins_34 : decode cX3_twins 34 = .ok (.aload_n 0, 1) := by decide +kernel
theorem dX3_twins_35 : decode cX3_twins 35 = .ok (.getfield 19, 3) := by decide +kernel
theorem dX3_twins_38 : decode cX3_twins 38 = .ok (.iload_n 3, 1) := by decide +kernel
theorem dX3_twins_39 : decode cX3_twins 39 = .ok (.aaload, 1) := by decide +kernel
theorem dX3_twins_40 : decode cX3_twins 40 = .ok (.getfield 74, 3) := by decide +kernel
theorem dX3_twins_43 : decode cX3_twins 43 = .ok (.aload_n 0, 1) := by decide +kernel
theorem dX3_twins_44 : decode cX3_twins 44 = .ok (.getfield 19, 3) := by decide +kernel
theorem dX3_twins_47 : decode cX3_twins 47 = .ok (.iload 4, 2) := by decide +kernel
theorem dX3_twins_49 : decode cX3_twins 49 = .ok (.aaload, 1) := by decide +kernel
theorem dX3_twins_50 : decode cX3_twins 50 = .ok (.getfield 74, 3) := by decide +kernel
theorem dX3_twins_53 : decode cX3_twins 53 = .ok (.invokevirtual 179, 3) := by decide +kernel
theorem dX3_twins_56 : decode cX3_twins 56 = .ok (.ifCond .eq 18, 3) := by decide +kernel
theorem dX3_twins_59 : decode cX3_twins 59 = .ok (.iload_n 2, 1) := by decide +kernel
theorem dX3_twins_60 : decode cX3_twins 60 = .ok (.iload_n 1, 1) := by decide +kernel
theorem dX3_twins_61 : decode cX3_twins 61 = .ok (.if_icmp .ne 10, 3) := by decide +kernel
theorem dX3_twins_64 : decode cX3_twins 64 = .ok (.iload_n 3, 1) := by decide +kernel
theorem dX3_twins_65 : decode cX3_twins 65 = .ok (.iload 4, 2) := by decide +kernel
theorem dX3_twins_67 : decode cX3_twins 67 = .ok (.invokestatic 159, 3) := by decide +kernel
theorem dX3_twins_70 : decode cX3_twins 70 = .ok (.ireturn, 1) := by decide +kernel
theorem dX3_twins_71 : decode cX3_twins 71 = .ok (.iinc 2 1, 3) := by decide +kernel
theorem dX3_twins_74 : decode cX3_twins 74 = .ok (.iinc 4 1, 3) := by decide +kernel
theorem dX3_twins_77 : decode cX3_twins 77 = .ok (.goto (-53), 3) := by decide +kernel
theorem dX3_twins_80 : decode cX3_twins 80 = .ok (.iinc 3 1, 3) := by decide +kernel
theorem dX3_twins_83 : decode cX3_twins 83 = .ok (.goto (-72), 3) := by decide +kernel
theorem dX3_twins_86 : decode cX3_twins 86 = .ok (.iload_n 1, 1) := by decide +kernel
theorem dX3_twins_87 : decode cX3_twins 87 = .ok (.iconst (-1), 1) := by decide +kernel
theorem dX3_twins_88 : decode cX3_twins 88 = .ok (.if_icmp .ne 7, 3) := by decide +kernel
theorem dX3_twins_91 : decode cX3_twins 91 = .ok (.iload_n 2, 1) := by decide +kernel
theorem dX3_twins_92 : decode cX3_twins 92 = .ok (.goto 5, 3) := by decide +kernel
theorem dX3_twins_95 : decode cX3_twins 95 = .ok (.bipush (-9), 2) := by decide +kernel
theorem dX3_twins_97 : decode cX3_twins 97 = .ok (.ireturn, 1) := by decide +kernel
set_option maxRecDepth 20000 in
theorem ggX3_forged_X3_areTwoSigns : GoodIn wsX3_forged wsX3_areTwoSigns := goodIn_r _ [7, 8, 9, 10, 6, 11, 12, 68, 69, 70, 71, 72, 73, 74, 75, 76, 77, 78, 79, 80, 81] (by decide +kernel) (by decide +kernel)
set_option maxRecDepth 20000 in
theorem gX3_forged_X3_areTwoSigns : GoodIn wsX3_forged (wsV RX3 119 RX3 yX3_areTwoSigns wsX3_areTwoSigns) := goodIn_app (goodIn_of _ (by decide +kernel)) ggX3_forged_X3_areTwoSigns
set_option maxRecDepth 20000 in
theorem ggX3_forged_X3_refused : GoodIn wsX3_forged wsX3_refused := goodIn_r _ [16, 17, 68, 69, 70, 71, 72, 73, 74, 75, 76, 77, 78, 79, 80, 81] (by decide +kernel) (by decide +kernel)
set_option maxRecDepth 20000 in
theorem gX3_forged_X3_refused : GoodIn wsX3_forged (wsV RX3 183 RX3 yX3_refused wsX3_refused) := goodIn_app (goodIn_of _ (by decide +kernel)) ggX3_forged_X3_refused
set_option maxRecDepth 20000 in
theorem ggX3_forged_X3_spanRefusal : GoodIn wsX3_forged wsX3_spanRefusal := goodIn_r _ [21, 2, 17, 22, 23, 6, 24, 13, 14, 15, 16, 25, 26, 27, 28, 29, 30, 31, 32, 33, 34, 35, 36, 68, 69, 70, 71, 72, 73, 74, 75, 76, 77, 78, 79, 80, 81, 82, 83, 84, 85] (by decide +kernel) (by decide +kernel)
set_option maxRecDepth 20000 in
theorem gX3_forged_X3_spanRefusal : GoodIn wsX3_forged (wsV RX3 48 RX3 yX3_spanRefusal wsX3_spanRefusal) := goodIn_app (goodIn_of _ (by decide +kernel)) ggX3_forged_X3_spanRefusal
set_option maxRecDepth 20000 in
theorem ggX3_forged_X3_areStoppers : GoodIn wsX3_forged wsX3_areStoppers := goodIn_r _ [39, 40, 41, 6, 42, 82, 83, 84, 85] (by decide +kernel) (by decide +kernel)
set_option maxRecDepth 20000 in
theorem gX3_forged_X3_areStoppers : GoodIn wsX3_forged (va_wsS RX3 188 yX3_areStoppers wsX3_areStoppers) := goodIn_app (goodIn_of _ (by decide +kernel)) ggX3_forged_X3_areStoppers
set_option maxRecDepth 20000 in
theorem ggX3_forged_J6_bitCount_0f7a4 : GoodIn wsX3_forged wsJ6_bitCount_0f7a4 := goodIn_r _ [46, 47, 48, 49] (by decide +kernel) (by decide +kernel)
set_option maxRecDepth 20000 in
theorem gX3_forged_J6_bitCount_0f7a4 : GoodIn wsX3_forged (va_wsS RX3 192 yJ6_bitCount_0f7a4 wsJ6_bitCount_0f7a4) := goodIn_app (goodIn_of _ (by decide +kernel)) ggX3_forged_J6_bitCount_0f7a4
set_option maxRecDepth 20000 in
theorem ggX3_forged_X3_isTakenFor : GoodIn wsX3_forged wsX3_isTakenFor := goodIn_r _ [53, 54, 55, 56, 57, 58, 6, 59, 60, 61, 62, 63, 64, 65, 66, 67, 68, 69, 70, 71, 72, 73, 74, 75, 76, 77, 78, 79, 80, 81, 86, 87, 88, 82, 83, 84, 85] (by decide +kernel) (by decide +kernel)
set_option maxRecDepth 20000 in
theorem gX3_forged_X3_isTakenFor : GoodIn wsX3_forged (wsV RX3 197 RX3 yX3_isTakenFor wsX3_isTakenFor) := goodIn_app (goodIn_of _ (by decide +kernel)) ggX3_forged_X3_isTakenFor
theorem dX3_forged_0 : decode cX3_forged 0 = .ok (.aload_n 0, 1) := by decide +kernel
theorem dX3_forged_1 : decode cX3_forged 1 = .ok (.iload_n 1, 1) := by decide +kernel
theorem dX3_forged_2 : decode cX3_forged 2 = .ok (.iload_n 2, 1) := by decide +kernel
theorem dX3_forged_3 : decode cX3_forged 3 = .ok (.invokevirtual 119, 3) := by decide +kernel
theorem dX3_forged_6 : decode cX3_forged 6 = .ok (.ifCond .ne 9, 3) := by decide +kernel
theorem dX3_forged_9 : decode cX3_forged 9 = .ok (.aload_n 0, 1) := by decide +kernel
theorem dX3_forged_10 : decode cX3_forged 10 = .ok (.iconst (-1), 1) := by decide +kernel
theorem dX3_forged_11 : decode cX3_forged 11 = .ok (.invokevirtual 183, 3) := by decide +kernel
theorem dX3_forged_14 : decode cX3_forged 14 = .ok (.ireturn, 1) := by decide +kernel
theorem dX3_forged_15 : decode cX3_forged 15 = .ok (.aload_n 0, 1) := by decide +kernel
theorem dX3_forged_16 : decode cX3_forged 16 = .ok (.iload_n 3, 1) := by decide +kernel
theorem dX3_forged_17 : decode cX3_forged 17 = .ok (.iload 4, 2) := by decide +kernel
theorem dX3_forged_19 : decode cX3_forged 19 = .ok (.iload 5, 2) := by decide +kernel
theorem dX3_forged_21 : decode cX3_forged 21 = .ok (.ldc2_w 186, 3) := by decide +kernel
theorem dX3_forged_24 : decode cX3_forged 24 = .ok (.iload 6, 2) := by decide +kernel
theorem dX3_forged_26 : decode cX3_forged 26 = .ok (.i2l, 1) := by decide +kernel
theorem dX3_forged_27 : decode cX3_forged 27 = .ok (.lmul, 1) := by decide +kernel
theorem dX3_forged_28 : decode cX3_forged 28 = .ok (.invokevirtual 48, 3) := by decide +kernel
theorem dX3_forged_31 : decode cX3_forged 31 = .ok (.istore 7, 2) := by decide +kernel
theorem dX3_forged_33 : decode cX3_forged 33 = .ok (.iload 7, 2) := by decide +kernel
theorem dX3_forged_35 : decode cX3_forged 35 = .ok (.ifCond .eq 6, 3) := by decide +kernel
theorem dX3_forged_38 : decode cX3_forged 38 = .ok (.iload 7, 2) := by decide +kernel
theorem dX3_forged_40 : decode cX3_forged 40 = .ok (.ireturn, 1) := by decide +kernel
theorem dX3_forged_41 : decode cX3_forged 41 = .ok (.iload 6, 2) := by decide +kernel
theorem dX3_forged_43 : decode cX3_forged 43 = .ok (.bipush 10, 2) := by decide +kernel
theorem dX3_forged_45 : decode cX3_forged 45 = .ok (.if_icmp .gt 19, 3) := by decide +kernel
theorem dX3_forged_48 : decode cX3_forged 48 = .ok (.aload_n 0, 1) := by decide +kernel
theorem dX3_forged_49 : decode cX3_forged 49 = .ok (.getfield 13, 3) := by decide +kernel
theorem dX3_forged_52 : decode cX3_forged 52 = .ok (.iload_n 3, 1) := by decide +kernel
theorem dX3_forged_53 : decode cX3_forged 53 = .ok (.aaload, 1) := by decide +kernel
theorem dX3_forged_54 : decode cX3_forged 54 = .ok (.iload 5, 2) := by decide +kernel
theorem dX3_forged_56 : decode cX3_forged 56 = .ok (.iload 6, 2) := by decide +kernel
theorem dX3_forged_58 : decode cX3_forged 58 = .ok (.invokestatic 188, 3) := by decide +kernel
theorem dX3_forged_61 : decode cX3_forged 61 = .ok (.ifCond .ne 6, 3) := by decide +kernel
theorem dX3_forged_64 : decode cX3_forged 64 = .ok (.bipush (-2), 2) := by decide +kernel
theorem dX3_forged_66 : decode cX3_forged 66 = .ok (.ireturn, 1) := by decide +kernel
theorem dX3_forged_67 : decode cX3_forged 67 = .ok (.bipush (-9), 2) := by decide +kernel
theorem dX3_forged_69 : decode cX3_forged 69 = .ok (.istore 8, 2) := by decide +kernel
theorem dX3_forged_71 : decode cX3_forged 71 = .ok (.iload 6, 2) := by decide +kernel
theorem dX3_forged_73 : decode cX3_forged 73 = .ok (.iconst 1, 1) := by decide +kernel
theorem dX3_forged_74 : decode cX3_forged 74 = .ok (.iadd, 1) := by decide +kernel
theorem dX3_forged_75 : decode cX3_forged 75 = .ok (.istore 9, 2) := by decide +kernel
theorem dX3_forged_77 : decode cX3_forged 77 = .ok (.iconst 0, 1) := by decide +kernel
theorem dX3_forged_78 : decode cX3_forged 78 = .ok (.istore 10, 2) := by decide +kernel
theorem dX3_forged_80 : decode cX3_forged 80 = .ok (.iload 10, 2) := by decide +kernel
theorem dX3_forged_82 : decode cX3_forged 82 = .ok (.iconst 1, 1) := by decide +kernel
theorem dX3_forged_83 : decode cX3_forged 83 = .ok (.iload 6, 2) := by decide +kernel
theorem dX3_forged_85 : decode cX3_forged 85 = .ok (.ishl, 1) := by decide +kernel
theorem dX3_forged_86 : decode cX3_forged 86 = .ok (.if_icmp .ge 50, 3) := by decide +kernel
theorem dX3_forged_89 : decode cX3_forged 89 = .ok (.iload 10, 2) := by decide +kernel
theorem dX3_forged_91 : decode cX3_forged 91 = .ok (.invokestatic 192, 3) := by decide +kernel
theorem dX3_forged_94 : decode cX3_forged 94 = .ok (.istore 11, 2) := by decide +kernel
theorem dX3_forged_96 : decode cX3_forged 96 = .ok (.iload 11, 2) := by decide +kernel
theorem dX3_forged_98 : decode cX3_forged 98 = .ok (.iload 9, 2) := by decide +kernel
theorem dX3_forged_100 : decode cX3_forged 100 = .ok (.if_icmp .ge 30, 3) := by decide +kernel
theorem dX3_forged_103 : decode cX3_forged 103 = .ok (.aload_n 0, 1) := by decide +kernel
theorem dX3_forged_104 : decode cX3_forged 104 = .ok (.iload_n 1, 1) := by decide +kernel
theorem dX3_forged_105 : decode cX3_forged 105 = .ok (.iload_n 2, 1) := by decide +kernel
theorem dX3_forged_106 : decode cX3_forged 106 = .ok (.aload_n 0, 1) := by decide +kernel
theorem dX3_forged_107 : decode cX3_forged 107 = .ok (.getfield 13, 3) := by decide +kernel
theorem dX3_forged_110 : decode cX3_forged 110 = .ok (.iload_n 3, 1) := by decide +kernel
theorem dX3_forged_111 : decode cX3_forged 111 = .ok (.aaload, 1) := by decide +kernel
theorem dX3_forged_112 : decode cX3_forged 112 = .ok (.iload 5, 2) := by decide +kernel
theorem dX3_forged_114 : decode cX3_forged 114 = .ok (.iload 10, 2) := by decide +kernel
theorem dX3_forged_116 : decode cX3_forged 116 = .ok (.invokevirtual 197, 3) := by decide +kernel
theorem dX3_forged_119 : decode cX3_forged 119 = .ok (.ifCond .eq 11, 3) := by decide +kernel
theorem dX3_forged_122 : decode cX3_forged 122 = .ok (.iload 10, 2) := by decide +kernel
theorem dX3_forged_124 : decode cX3_forged 124 = .ok (.istore 8, 2) := by decide +kernel
theorem dX3_forged_126 : decode cX3_forged 126 = .ok (.iload 11, 2) := by decide +kernel
theorem dX3_forged_128 : decode cX3_forged 128 = .ok (.istore 9, 2) := by decide +kernel
theorem dX3_forged_130 : decode cX3_forged 130 = .ok (.iinc 10 1, 3) := by decide +kernel
theorem dX3_forged_133 : decode cX3_forged 133 = .ok (.goto (-53), 3) := by decide +kernel
theorem dX3_forged_136 : decode cX3_forged 136 = .ok (.iload 8, 2) := by decide +kernel
theorem dX3_forged_138 : decode cX3_forged 138 = .ok (.ireturn, 1) := by decide +kernel
set_option maxRecDepth 20000 in
theorem ggX3_near_X3_isSign : GoodIn wsX3_near wsX3_isSign := goodIn_r _ [6, 7, 14, 15, 16, 17, 18, 19, 20, 21, 22, 23, 24, 25, 26, 27] (by decide +kernel) (by decide +kernel)
set_option maxRecDepth 20000 in
theorem gX3_near_X3_isSign : GoodIn wsX3_near (wsV RX3 67 RX3 yX3_isSign wsX3_isSign) := goodIn_app (goodIn_of _ (by decide +kernel)) ggX3_near_X3_isSign
set_option maxRecDepth 20000 in
theorem ggX3_near_X3_isSmell : GoodIn wsX3_near wsX3_isSmell := goodIn_r _ [10] (by decide +kernel) (by decide +kernel)
set_option maxRecDepth 20000 in
theorem gX3_near_X3_isSmell : GoodIn wsX3_near (va_wsS RX3 77 yX3_isSmell wsX3_isSmell) := goodIn_app (goodIn_of _ (by decide +kernel)) ggX3_near_X3_isSmell
set_option maxRecDepth 20000 in
theorem ggX3_near_X3_strengthNear : GoodIn wsX3_near wsX3_strengthNear := goodIn_r _ [13, 28, 29, 30] (by decide +kernel) (by decide +kernel)
set_option maxRecDepth 20000 in
theorem gX3_near_X3_strengthNear : GoodIn wsX3_near (va_wsS RX3 201 yX3_strengthNear wsX3_strengthNear) := goodIn_app (goodIn_of _ (by decide +kernel)) ggX3_near_X3_strengthNear
theorem dX3_near_0 : decode cX3_near 0 = .ok (.aload_n 0, 1) := by decide +kernel
theorem dX3_near_1 : decode cX3_near 1 = .ok (.iload_n 1, 1) := by decide +kernel
theorem dX3_near_2 : decode cX3_near 2 = .ok (.invokevirtual 67, 3) := by decide +kernel
theorem dX3_near_5 : decode cX3_near 5 = .ok (.ifCond .eq 19, 3) := by decide +kernel
theorem dX3_near_8 : decode cX3_near 8 = .ok (.aload_n 0, 1) := by decide +kernel
theorem dX3_near_9 : decode cX3_near 9 = .ok (.iload_n 2, 1) := by decide +kernel
theorem dX3_near_10 : decode cX3_near 10 = .ok (.invokevirtual 67, 3) := by decide +kernel
theorem dX3_near_13 : decode cX3_near 13 = .ok (.ifCond .eq 11, 3) := by decide +kernel
theorem dX3_near_16 : decode cX3_near 16 = .ok (.iload 4, 2) := by decide +kernel
theorem dX3_near_18 : decode cX3_near 18 = .ok (.invokestatic 77, 3) := by decide +kernel
theorem dX3_near_21 : decode cX3_near 21 = .ok (.ifCond .ne 5, 3) := by decide +kernel
theorem dX3_near_24 : decode cX3_near 24 = .ok (.iconst (-1), 1) := by decide +kernel
theorem dX3_near_25 : decode cX3_near 25 = .ok (.ireturn, 1) := by decide +kernel
theorem dX3_near_26 : decode cX3_near 26 = .ok (.iload_n 3, 1) := by decide +kernel
theorem dX3_near_27 : decode cX3_near 27 = .ok (.ifCond .lt 9, 3) := by decide +kernel
theorem dX3_near_30 : decode cX3_near 30 = .ok (.iload_n 3, 1) := by decide +kernel
theorem dX3_near_31 : decode cX3_near 31 = .ok (.bipush 10, 2) := by decide +kernel
theorem dX3_near_33 : decode cX3_near 33 = .ok (.if_icmp .le 6, 3) := by decide +kernel
theorem dX3_near_36 : decode cX3_near 36 = .ok (.bipush (-2), 2) := by decide +kernel
theorem dX3_near_38 : decode cX3_near 38 = .ok (.ireturn, 1) := by decide +kernel
theorem dX3_near_39 : decode cX3_near 39 = .ok (.aload_n 0, 1) := by decide +kernel
theorem dX3_near_40 : decode cX3_near 40 = .ok (.getfield 19, 3) := by decide +kernel
theorem dX3_near_43 : decode cX3_near 43 = .ok (.iload_n 1, 1) := by decide +kernel
theorem dX3_near_44 : decode cX3_near 44 = .ok (.aaload, 1) := by decide +kernel
theorem dX3_near_45 : decode cX3_near 45 = .ok (.aload_n 0, 1) := by decide +kernel
theorem dX3_near_46 : decode cX3_near 46 = .ok (.getfield 19, 3) := by decide +kernel
theorem dX3_near_49 : decode cX3_near 49 = .ok (.iload_n 2, 1) := by decide +kernel
theorem dX3_near_50 : decode cX3_near 50 = .ok (.aaload, 1) := by decide +kernel
theorem dX3_near_51 : decode cX3_near 51 = .ok (.iload_n 3, 1) := by decide +kernel
theorem dX3_near_52 : decode cX3_near 52 = .ok (.iload 4, 2) := by decide +kernel
theorem dX3_near_54 : decode cX3_near 54 = .ok (.invokestatic 201, 3) := by decide +kernel
theorem dX3_near_57 : decode cX3_near 57 = .ok (.ireturn, 1) := by decide +kernel
set_option maxRecDepth 20000 in
theorem ggX3_steals_X3_areTwoSigns : GoodIn wsX3_steals wsX3_areTwoSigns := goodIn_r _ [7, 8, 9, 10, 6, 11, 12, 28, 29, 30, 31, 32, 33, 34, 35, 36, 37, 38, 39, 40, 41] (by decide +kernel) (by decide +kernel)
set_option maxRecDepth 20000 in
theorem gX3_steals_X3_areTwoSigns : GoodIn wsX3_steals (wsV RX3 119 RX3 yX3_areTwoSigns wsX3_areTwoSigns) := goodIn_app (goodIn_of _ (by decide +kernel)) ggX3_steals_X3_areTwoSigns
set_option maxRecDepth 20000 in
theorem ggX3_steals_X3_strengthNear : GoodIn wsX3_steals wsX3_strengthNear := goodIn_r _ [15, 42, 43, 44] (by decide +kernel) (by decide +kernel)
set_option maxRecDepth 20000 in
theorem gX3_steals_X3_strengthNear : GoodIn wsX3_steals (va_wsS RX3 201 yX3_strengthNear wsX3_strengthNear) := goodIn_app (goodIn_of _ (by decide +kernel)) ggX3_steals_X3_strengthNear
set_option maxRecDepth 20000 in
theorem ggX3_steals_X3_areAlike : GoodIn wsX3_steals wsX3_areAlike := goodIn_r _ [19, 20, 21, 22, 6, 23, 24, 25, 26, 27, 28, 29, 30, 31, 32, 33, 34, 35, 36, 37, 38, 39, 40, 41] (by decide +kernel) (by decide +kernel)
set_option maxRecDepth 20000 in
theorem gX3_steals_X3_areAlike : GoodIn wsX3_steals (wsV RX3 179 RX3 yX3_areAlike wsX3_areAlike) := goodIn_app (goodIn_of _ (by decide +kernel)) ggX3_steals_X3_areAlike
theorem dX3_steals_0 : decode cX3_steals 0 = .ok (.aload_n 0, 1) := by decide +kernel
theorem dX3_steals_1 : decode cX3_steals 1 = .ok (.iload_n 1, 1) := by decide +kernel
theorem dX3_steals_2 : decode cX3_steals 2 = .ok (.iload_n 2, 1) := by decide +kernel
theorem dX3_steals_3 : decode cX3_steals 3 = .ok (.invokevirtual 119, 3) := by decide +kernel
theorem dX3_steals_6 : decode cX3_steals 6 = .ok (.ifCond .ne 5, 3) := by decide +kernel
theorem dX3_steals_9 : decode cX3_steals 9 = .ok (.iconst (-1), 1) := by decide +kernel
theorem dX3_steals_10 : decode cX3_steals 10 = .ok (.ireturn, 1) := by decide +kernel
theorem dX3_steals_11 : decode cX3_steals 11 = .ok (.iconst 0, 1) := by decide +kernel
theorem dX3_steals_12 : decode cX3_steals 12 = .ok (.istore_n 3, 1) := by decide +kernel
theorem dX3_steals_13 : decode cX3_steals 13 = .ok (.iload_n 3, 1) := by decide +kernel
theorem dX3_steals_14 : decode cX3_steals 14 = .ok (.bipush 10, 2) := by decide +kernel
theorem dX3_steals_16 : decode cX3_steals 16 = .ok (.if_icmp .gt 72, 3) := by decide +kernel
theorem dX3_steals_19 : decode cX3_steals 19 = .ok (.iconst 0, 1) := by decide +kernel
theorem dX3_steals_20 : decode cX3_steals 20 = .ok (.istore 4, 2) := by decide +kernel
theorem dX3_steals_22 : decode cX3_steals 22 = .ok (.iload 4, 2) := by decide +kernel
theorem dX3_steals_24 : decode cX3_steals 24 = .ok (.bipush 9, 2) := by decide +kernel
theorem dX3_steals_26 : decode cX3_steals 26 = .ok (.if_icmp .ge 34, 3) := by decide +kernel
theorem dX3_steals_29 : decode cX3_steals 29 = .ok (.aload_n 0, 1) := by decide +kernel
theorem dX3_steals_30 : decode cX3_steals 30 = .ok (.getfield 36, 3) := by decide +kernel
theorem dX3_steals_33 : decode cX3_steals 33 = .ok (.iload 4, 2) := by decide +kernel
theorem dX3_steals_35 : decode cX3_steals 35 = .ok (.aload_n 0, 1) := by decide +kernel
theorem dX3_steals_36 : decode cX3_steals 36 = .ok (.getfield 19, 3) := by decide +kernel
theorem dX3_steals_39 : decode cX3_steals 39 = .ok (.iload_n 1, 1) := by decide +kernel
theorem dX3_steals_40 : decode cX3_steals 40 = .ok (.aaload, 1) := by decide +kernel
theorem dX3_steals_41 : decode cX3_steals 41 = .ok (.aload_n 0, 1) := by decide +kernel
theorem dX3_steals_42 : decode cX3_steals 42 = .ok (.getfield 19, 3) := by decide +kernel
theorem dX3_steals_45 : decode cX3_steals 45 = .ok (.iload_n 2, 1) := by decide +kernel
theorem dX3_steals_46 : decode cX3_steals 46 = .ok (.aaload, 1) := by decide +kernel
theorem dX3_steals_47 : decode cX3_steals 47 = .ok (.iload_n 3, 1) := by decide +kernel
theorem dX3_steals_48 : decode cX3_steals 48 = .ok (.iload 4, 2) := by decide +kernel
theorem dX3_steals_50 : decode cX3_steals 50 = .ok (.invokestatic 201, 3) := by decide +kernel
theorem dX3_steals_53 : decode cX3_steals 53 = .ok (.iastore, 1) := by decide +kernel
theorem dX3_steals_54 : decode cX3_steals 54 = .ok (.iinc 4 1, 3) := by decide +kernel
theorem dX3_steals_57 : decode cX3_steals 57 = .ok (.goto (-35), 3) := by decide +kernel
theorem dX3_steals_60 : decode cX3_steals 60 = .ok (.aload_n 0, 1) := by decide +kernel
theorem dX3_steals_61 : decode cX3_steals 61 = .ok (.aload_n 0, 1) := by decide +kernel
theorem dX3_steals_62 : decode cX3_steals 62 = .ok (.getfield 36, 3) := by decide +kernel
theorem dX3_steals_65 : decode cX3_steals 65 = .ok (.aload_n 0, 1) := by decide +kernel
theorem dX3_steals_66 : decode cX3_steals 66 = .ok (.getfield 19, 3) := by decide +kernel
theorem dX3_steals_69 : decode cX3_steals 69 = .ok (.iload_n 2, 1) := by decide +kernel
theorem dX3_steals_70 : decode cX3_steals 70 = .ok (.aaload, 1) := by decide +kernel
theorem dX3_steals_71 : decode cX3_steals 71 = .ok (.getfield 74, 3) := by decide +kernel
theorem dX3_steals_74 : decode cX3_steals 74 = .ok (.invokevirtual 179, 3) := by decide +kernel
theorem dX3_steals_77 : decode cX3_steals 77 = .ok (.ifCond .eq 5, 3) := by decide +kernel
theorem dX3_steals_80 : decode cX3_steals 80 = .ok (.iload_n 3, 1) := by decide +kernel
theorem dX3_steals_81 : decode cX3_steals 81 = .ok (.ireturn, 1) := by decide +kernel
theorem dX3_steals_82 : decode cX3_steals 82 = .ok (.iinc 3 1, 3) := by decide +kernel
theorem dX3_steals_85 : decode cX3_steals 85 = .ok (.goto (-72), 3) := by decide +kernel
theorem dX3_steals_88 : decode cX3_steals 88 = .ok (.bipush (-9), 2) := by decide +kernel
theorem dX3_steals_90 : decode cX3_steals 90 = .ok (.ireturn, 1) := by decide +kernel
set_option maxRecDepth 20000 in
theorem ggX3_fresh_X3_seekNewSmell : GoodIn wsX3_fresh wsX3_seekNewSmell := goodIn_r _ [7, 8, 9, 10, 6, 11, 1, 12, 13, 14, 15, 16, 2, 17, 18, 19, 20, 21, 22, 23, 24, 25, 26, 27, 28, 29, 30, 31, 32, 33, 34, 35, 36, 37, 38, 39, 40, 41] (by decide +kernel) (by decide +kernel)
set_option maxRecDepth 20000 in
theorem gX3_fresh_X3_seekNewSmell : GoodIn wsX3_fresh (wsV RX3 205 RX3 yX3_seekNewSmell wsX3_seekNewSmell) := goodIn_app (goodIn_of _ (by decide +kernel)) ggX3_fresh_X3_seekNewSmell
theorem dX3_fresh_0 : decode cX3_fresh 0 = .ok (.iload_n 1, 1) := by decide +kernel
theorem dX3_fresh_1 : decode cX3_fresh 1 = .ok (.ifCond .lt 12, 3) := by decide +kernel
theorem dX3_fresh_4 : decode cX3_fresh 4 = .ok (.iload_n 1, 1) := by decide +kernel
theorem dX3_fresh_5 : decode cX3_fresh 5 = .ok (.aload_n 0, 1) := by decide +kernel
theorem dX3_fresh_6 : decode cX3_fresh 6 = .ok (.getfield 42, 3) := by decide +kernel
theorem dX3_fresh_9 : decode cX3_fresh 9 = .ok (.arraylength, 1) := by decide +kernel
theorem dX3_fresh_10 : decode cX3_fresh 10 = .ok (.if_icmp .lt 6, 3) := by decide +kernel
theorem dX3_fresh_13 : decode cX3_fresh 13 = .ok (.bipush (-2), 2) := by decide +kernel
theorem dX3_fresh_15 : decode cX3_fresh 15 = .ok (.ireturn, 1) := by decide +kernel
theorem dX3_fresh_16 : decode cX3_fresh 16 = .ok (.aload_n 0, 1) := by decide +kernel
theorem dX3_fresh_17 : decode cX3_fresh 17 = .ok (.getfield 63, 3) := by decide +kernel
theorem dX3_fresh_20 : decode cX3_fresh 20 = .ok (.ifCond .ne 6, 3) := by decide +kernel
theorem dX3_fresh_23 : decode cX3_fresh 23 = .ok (.bipush (-3), 2) := by decide +kernel
theorem dX3_fresh_25 : decode cX3_fresh 25 = .ok (.ireturn, 1) := by decide +kernel
theorem dX3_fresh_26 : decode cX3_fresh 26 = .ok (.aload_n 0, 1) := by decide +kernel
theorem dX3_fresh_27 : decode cX3_fresh 27 = .ok (.getfield 42, 3) := by decide +kernel
theorem dX3_fresh_30 : decode cX3_fresh 30 = .ok (.iconst 0, 1) := by decide +kernel
theorem dX3_fresh_31 : decode cX3_fresh 31 = .ok (.iaload, 1) := by decide +kernel
theorem dX3_fresh_32 : decode cX3_fresh 32 = .ok (.iconst (-1), 1) := by decide +kernel
theorem dX3_fresh_33 : decode cX3_fresh 33 = .ok (.if_icmp .ne 7, 3) := by decide +kernel
theorem dX3_fresh_36 : decode cX3_fresh 36 = .ok (.aload_n 0, 1) := by decide +kernel
theorem dX3_fresh_37 : decode cX3_fresh 37 = .ok (.invokevirtual 205, 3) := by decide +kernel
theorem dX3_fresh_40 : decode cX3_fresh 40 = .ok (.aload_n 0, 1) := by decide +kernel
theorem dX3_fresh_41 : decode cX3_fresh 41 = .ok (.getfield 42, 3) := by decide +kernel
theorem dX3_fresh_44 : decode cX3_fresh 44 = .ok (.iload_n 1, 1) := by decide +kernel
theorem dX3_fresh_45 : decode cX3_fresh 45 = .ok (.iaload, 1) := by decide +kernel
theorem dX3_fresh_46 : decode cX3_fresh 46 = .ok (.ireturn, 1) := by decide +kernel
theorem dX3_apartOf_0 : decode cX3_apartOf 0 = .ok (.iconst 0, 1) := by decide +kernel
theorem dX3_apartOf_1 : decode cX3_apartOf 1 = .ok (.istore_n 2, 1) := by decide +kernel
theorem dX3_apartOf_2 : decode cX3_apartOf 2 = .ok (.iconst 0, 1) := by decide +kernel
theorem dX3_apartOf_3 : decode cX3_apartOf 3 = .ok (.istore_n 3, 1) := by decide +kernel
theorem dX3_apartOf_4 : decode cX3_apartOf 4 = .ok (.iload_n 3, 1) := by decide +kernel
theorem dX3_apartOf_5 : decode cX3_apartOf 5 = .ok (.bipush 9, 2) := by decide +kernel
theorem dX3_apartOf_7 : decode cX3_apartOf 7 = .ok (.if_icmp .ge 22, 3) := by decide +kernel
theorem dX3_apartOf_10 : decode cX3_apartOf 10 = .ok (.iload_n 2, 1) := by decide +kernel
theorem dX3_apartOf_11 : decode cX3_apartOf 11 = .ok (.aload_n 0, 1) := by decide +kernel
theorem dX3_apartOf_12 : decode cX3_apartOf 12 = .ok (.iload_n 3, 1) := by decide +kernel
theorem dX3_apartOf_13 : decode cX3_apartOf 13 = .ok (.iaload, 1) := by decide +kernel
theorem dX3_apartOf_14 : decode cX3_apartOf 14 = .ok (.aload_n 1, 1) := by decide +kernel
theorem dX3_apartOf_15 : decode cX3_apartOf 15 = .ok (.iload_n 3, 1) := by decide +kernel
theorem dX3_apartOf_16 : decode cX3_apartOf 16 = .ok (.iaload, 1) := by decide +kernel
theorem dX3_apartOf_17 : decode cX3_apartOf 17 = .ok (.isub, 1) := by decide +kernel
theorem dX3_apartOf_18 : decode cX3_apartOf 18 = .ok (.invokestatic 172, 3) := by decide +kernel
theorem dX3_apartOf_21 : decode cX3_apartOf 21 = .ok (.iadd, 1) := by decide +kernel
theorem dX3_apartOf_22 : decode cX3_apartOf 22 = .ok (.istore_n 2, 1) := by decide +kernel
theorem dX3_apartOf_23 : decode cX3_apartOf 23 = .ok (.iinc 3 1, 3) := by decide +kernel
theorem dX3_apartOf_26 : decode cX3_apartOf 26 = .ok (.goto (-22), 3) := by decide +kernel
theorem dX3_apartOf_29 : decode cX3_apartOf 29 = .ok (.iload_n 2, 1) := by decide +kernel
theorem dX3_apartOf_30 : decode cX3_apartOf 30 = .ok (.ireturn, 1) := by decide +kernel
set_option maxRecDepth 20000 in
theorem ggX3_areAlike_X3_apartOf : GoodIn wsX3_areAlike wsX3_apartOf := goodIn_r _ [5, 6, 7, 8, 9] (by decide +kernel) (by decide +kernel)
set_option maxRecDepth 20000 in
theorem gX3_areAlike_X3_apartOf : GoodIn wsX3_areAlike (va_wsS RX3 175 yX3_apartOf wsX3_apartOf) := goodIn_app (goodIn_of _ (by decide +kernel)) ggX3_areAlike_X3_apartOf
theorem dX3_areAlike_0 : decode cX3_areAlike 0 = .ok (.bipush 8, 2) := by decide +kernel
theorem dX3_areAlike_2 : decode cX3_areAlike 2 = .ok (.aload_n 1, 1) := by decide +kernel
theorem dX3_areAlike_3 : decode cX3_areAlike 3 = .ok (.aload_n 2, 1) := by decide +kernel
theorem dX3_areAlike_4 : decode cX3_areAlike 4 = .ok (.invokestatic 175, 3) := by decide +kernel
theorem dX3_areAlike_7 : decode cX3_areAlike 7 = .ok (.imul, 1) := by decide +kernel
theorem dX3_areAlike_8 : decode cX3_areAlike 8 = .ok (.aload_n 0, 1) := by decide +kernel
theorem dX3_areAlike_9 : decode cX3_areAlike 9 = .ok (.getfield 80, 3) := by decide +kernel
theorem dX3_areAlike_12 : decode cX3_areAlike 12 = .ok (.if_icmp .gt 7, 3) := by decide +kernel
theorem dX3_areAlike_15 : decode cX3_areAlike 15 = .ok (.iconst 1, 1) := by decide +kernel
theorem dX3_areAlike_16 : decode cX3_areAlike 16 = .ok (.goto 4, 3) := by decide +kernel
theorem dX3_areAlike_19 : decode cX3_areAlike 19 = .ok (.iconst 0, 1) := by decide +kernel
theorem dX3_areAlike_20 : decode cX3_areAlike 20 = .ok (.ireturn, 1) := by decide +kernel
set_option maxRecDepth 20000 in
theorem ggX3_areStoppers_X3_isSmell : GoodIn wsX3_areStoppers wsX3_isSmell := goodIn_r _ [4] (by decide +kernel) (by decide +kernel)
set_option maxRecDepth 20000 in
theorem gX3_areStoppers_X3_isSmell : GoodIn wsX3_areStoppers (va_wsS RX3 77 yX3_isSmell wsX3_isSmell) := goodIn_app (goodIn_of _ (by decide +kernel)) ggX3_areStoppers_X3_isSmell
theorem dX3_areStoppers_0 : decode cX3_areStoppers 0 = .ok (.iconst 0, 1) := by decide +kernel
theorem dX3_areStoppers_1 : decode cX3_areStoppers 1 = .ok (.istore_n 3, 1) := by decide +kernel
theorem dX3_areStoppers_2 : decode cX3_areStoppers 2 = .ok (.iload_n 3, 1) := by decide +kernel
theorem dX3_areStoppers_3 : decode cX3_areStoppers 3 = .ok (.iload_n 2, 1) := by decide +kernel
theorem dX3_areStoppers_4 : decode cX3_areStoppers 4 = .ok (.if_icmp .ge 54, 3) := by decide +kernel
theorem dX3_areStoppers_7 : decode cX3_areStoppers 7 = .ok (.aload_n 0, 1) := by decide +kernel
theorem dX3_areStoppers_8 : decode cX3_areStoppers 8 = .ok (.getfield 90, 3) := by decide +kernel
theorem dX3_areStoppers_11 : decode cX3_areStoppers 11 = .ok (.iload_n 1, 1) := by decide +kernel
theorem dX3_areStoppers_12 : decode cX3_areStoppers 12 = .ok (.iconst 2, 1) := by decide +kernel
theorem dX3_areStoppers_13 : decode cX3_areStoppers 13 = .ok (.iload_n 3, 1) := by decide +kernel
theorem dX3_areStoppers_14 : decode cX3_areStoppers 14 = .ok (.imul, 1) := by decide +kernel
theorem dX3_areStoppers_15 : decode cX3_areStoppers 15 = .ok (.iadd, 1) := by decide +kernel
theorem dX3_areStoppers_16 : decode cX3_areStoppers 16 = .ok (.iconst 1, 1) := by decide +kernel
theorem dX3_areStoppers_17 : decode cX3_areStoppers 17 = .ok (.iadd, 1) := by decide +kernel
theorem dX3_areStoppers_18 : decode cX3_areStoppers 18 = .ok (.iaload, 1) := by decide +kernel
theorem dX3_areStoppers_19 : decode cX3_areStoppers 19 = .ok (.istore 4, 2) := by decide +kernel
theorem dX3_areStoppers_21 : decode cX3_areStoppers 21 = .ok (.aload_n 0, 1) := by decide +kernel
theorem dX3_areStoppers_22 : decode cX3_areStoppers 22 = .ok (.getfield 90, 3) := by decide +kernel
theorem dX3_areStoppers_25 : decode cX3_areStoppers 25 = .ok (.iload_n 1, 1) := by decide +kernel
theorem dX3_areStoppers_26 : decode cX3_areStoppers 26 = .ok (.iconst 2, 1) := by decide +kernel
theorem dX3_areStoppers_27 : decode cX3_areStoppers 27 = .ok (.iload_n 3, 1) := by decide +kernel
theorem dX3_areStoppers_28 : decode cX3_areStoppers 28 = .ok (.imul, 1) := by decide +kernel
theorem dX3_areStoppers_29 : decode cX3_areStoppers 29 = .ok (.iadd, 1) := by decide +kernel
theorem dX3_areStoppers_30 : decode cX3_areStoppers 30 = .ok (.iaload, 1) := by decide +kernel
theorem dX3_areStoppers_31 : decode cX3_areStoppers 31 = .ok (.invokestatic 77, 3) := by decide +kernel
theorem dX3_areStoppers_34 : decode cX3_areStoppers 34 = .ok (.ifCond .eq 16, 3) := by decide +kernel
theorem dX3_areStoppers_37 : decode cX3_areStoppers 37 = .ok (.iload 4, 2) := by decide +kernel
theorem dX3_areStoppers_39 : decode cX3_areStoppers 39 = .ok (.iconst 1, 1) := by decide +kernel
theorem dX3_areStoppers_40 : decode cX3_areStoppers 40 = .ok (.if_icmp .lt 10, 3) := by decide +kernel
theorem dX3_areStoppers_43 : decode cX3_areStoppers 43 = .ok (.iload 4, 2) := by decide +kernel
theorem dX3_areStoppers_45 : decode cX3_areStoppers 45 = .ok (.bipush 9, 2) := by decide +kernel
theorem dX3_areStoppers_47 : decode cX3_areStoppers 47 = .ok (.if_icmp .le 5, 3) := by decide +kernel
theorem dX3_areStoppers_50 : decode cX3_areStoppers 50 = .ok (.iconst 0, 1) := by decide +kernel
theorem dX3_areStoppers_51 : decode cX3_areStoppers 51 = .ok (.ireturn, 1) := by decide +kernel
theorem dX3_areStoppers_52 : decode cX3_areStoppers 52 = .ok (.iinc 3 1, 3) := by decide +kernel
theorem dX3_areStoppers_55 : decode cX3_areStoppers 55 = .ok (.goto (-53), 3) := by decide +kernel
theorem dX3_areStoppers_58 : decode cX3_areStoppers 58 = .ok (.iconst 1, 1) := by decide +kernel
theorem dX3_areStoppers_59 : decode cX3_areStoppers 59 = .ok (.ireturn, 1) := by decide +kernel
set_option maxRecDepth 20000 in
theorem ggX3_isTakenFor_X3_areAlike : GoodIn wsX3_isTakenFor wsX3_areAlike := goodIn_r _ [7, 8, 9, 10, 6, 11, 12, 13, 14, 15, 16, 17, 18, 19, 20, 21, 22, 23, 24, 25, 26, 27, 28, 29] (by decide +kernel) (by decide +kernel)
set_option maxRecDepth 20000 in
theorem gX3_isTakenFor_X3_areAlike : GoodIn wsX3_isTakenFor (wsV RX3 179 RX3 yX3_areAlike wsX3_areAlike) := goodIn_app (goodIn_of _ (by decide +kernel)) ggX3_isTakenFor_X3_areAlike
theorem dX3_isTakenFor_0 : decode cX3_isTakenFor 0 = .ok (.iconst 0, 1) := by decide +kernel
theorem dX3_isTakenFor_1 : decode cX3_isTakenFor 1 = .ok (.istore 6, 2) := by decide +kernel
theorem dX3_isTakenFor_3 : decode cX3_isTakenFor 3 = .ok (.iload 6, 2) := by decide +kernel
theorem dX3_isTakenFor_5 : decode cX3_isTakenFor 5 = .ok (.bipush 9, 2) := by decide +kernel
theorem dX3_isTakenFor_7 : decode cX3_isTakenFor 7 = .ok (.if_icmp .ge 28, 3) := by decide +kernel
theorem dX3_isTakenFor_10 : decode cX3_isTakenFor 10 = .ok (.aload_n 0, 1) := by decide +kernel
theorem dX3_isTakenFor_11 : decode cX3_isTakenFor 11 = .ok (.getfield 36, 3) := by decide +kernel
theorem dX3_isTakenFor_14 : decode cX3_isTakenFor 14 = .ok (.iload 6, 2) := by decide +kernel
theorem dX3_isTakenFor_16 : decode cX3_isTakenFor 16 = .ok (.aload_n 0, 1) := by decide +kernel
theorem dX3_isTakenFor_17 : decode cX3_isTakenFor 17 = .ok (.getfield 19, 3) := by decide +kernel
theorem dX3_isTakenFor_20 : decode cX3_isTakenFor 20 = .ok (.iload_n 1, 1) := by decide +kernel
theorem dX3_isTakenFor_21 : decode cX3_isTakenFor 21 = .ok (.aaload, 1) := by decide +kernel
theorem dX3_isTakenFor_22 : decode cX3_isTakenFor 22 = .ok (.getfield 74, 3) := by decide +kernel
theorem dX3_isTakenFor_25 : decode cX3_isTakenFor 25 = .ok (.iload 6, 2) := by decide +kernel
theorem dX3_isTakenFor_27 : decode cX3_isTakenFor 27 = .ok (.iaload, 1) := by decide +kernel
theorem dX3_isTakenFor_28 : decode cX3_isTakenFor 28 = .ok (.iastore, 1) := by decide +kernel
theorem dX3_isTakenFor_29 : decode cX3_isTakenFor 29 = .ok (.iinc 6 1, 3) := by decide +kernel
theorem dX3_isTakenFor_32 : decode cX3_isTakenFor 32 = .ok (.goto (-29), 3) := by decide +kernel
theorem dX3_isTakenFor_35 : decode cX3_isTakenFor 35 = .ok (.iconst 0, 1) := by decide +kernel
theorem dX3_isTakenFor_36 : decode cX3_isTakenFor 36 = .ok (.istore 6, 2) := by decide +kernel
theorem dX3_isTakenFor_38 : decode cX3_isTakenFor 38 = .ok (.iload 6, 2) := by decide +kernel
theorem dX3_isTakenFor_40 : decode cX3_isTakenFor 40 = .ok (.bipush 10, 2) := by decide +kernel
theorem dX3_isTakenFor_42 : decode cX3_isTakenFor 42 = .ok (.if_icmp .ge 53, 3) := by decide +kernel
theorem dX3_isTakenFor_45 : decode cX3_isTakenFor 45 = .ok (.iload 5, 2) := by decide +kernel
theorem dX3_isTakenFor_47 : decode cX3_isTakenFor 47 = .ok (.iload 6, 2) := by decide +kernel
theorem dX3_isTakenFor_49 : decode cX3_isTakenFor 49 = .ok (.ishr, 1) := by decide +kernel
theorem dX3_isTakenFor_50 : decode cX3_isTakenFor 50 = .ok (.iconst 1, 1) := by decide +kernel
theorem dX3_isTakenFor_51 : decode cX3_isTakenFor 51 = .ok (.iand, 1) := by decide +kernel
theorem dX3_isTakenFor_52 : decode cX3_isTakenFor 52 = .ok (.ifCond .eq 37, 3) := by decide +kernel
theorem dX3_isTakenFor_55 : decode cX3_isTakenFor 55 = .ok (.aload_n 0, 1) := by decide +kernel
theorem dX3_isTakenFor_56 : decode cX3_isTakenFor 56 = .ok (.getfield 36, 3) := by decide +kernel
theorem dX3_isTakenFor_59 : decode cX3_isTakenFor 59 = .ok (.aload_n 3, 1) := by decide +kernel
theorem dX3_isTakenFor_60 : decode cX3_isTakenFor 60 = .ok (.getfield 90, 3) := by decide +kernel
theorem dX3_isTakenFor_63 : decode cX3_isTakenFor 63 = .ok (.iload 4, 2) := by decide +kernel
theorem dX3_isTakenFor_65 : decode cX3_isTakenFor 65 = .ok (.iconst 2, 1) := by decide +kernel
theorem dX3_isTakenFor_66 : decode cX3_isTakenFor 66 = .ok (.iload 6, 2) := by decide +kernel
theorem dX3_isTakenFor_68 : decode cX3_isTakenFor 68 = .ok (.imul, 1) := by decide +kernel
theorem dX3_isTakenFor_69 : decode cX3_isTakenFor 69 = .ok (.iadd, 1) := by decide +kernel
theorem dX3_isTakenFor_70 : decode cX3_isTakenFor 70 = .ok (.iaload, 1) := by decide +kernel
theorem dX3_isTakenFor_71 : decode cX3_isTakenFor 71 = .ok (.dup2, 1) := by decide +kernel
theorem dX3_isTakenFor_72 : decode cX3_isTakenFor 72 = .ok (.iaload, 1) := by decide +kernel
theorem dX3_isTakenFor_73 : decode cX3_isTakenFor 73 = .ok (.aload_n 3, 1) := by decide +kernel
theorem dX3_isTakenFor_74 : decode cX3_isTakenFor 74 = .ok (.getfield 90, 3) := by decide +kernel
theorem dX3_isTakenFor_77 : decode cX3_isTakenFor 77 = .ok (.iload 4, 2) := by decide +kernel
theorem dX3_isTakenFor_79 : decode cX3_isTakenFor 79 = .ok (.iconst 2, 1) := by decide +kernel
theorem dX3_isTakenFor_80 : decode cX3_isTakenFor 80 = .ok (.iload 6, 2) := by decide +kernel
theorem dX3_isTakenFor_82 : decode cX3_isTakenFor 82 = .ok (.imul, 1) := by decide +kernel
theorem dX3_isTakenFor_83 : decode cX3_isTakenFor 83 = .ok (.iadd, 1) := by decide +kernel
theorem dX3_isTakenFor_84 : decode cX3_isTakenFor 84 = .ok (.iconst 1, 1) := by decide +kernel
theorem dX3_isTakenFor_85 : decode cX3_isTakenFor 85 = .ok (.iadd, 1) := by decide +kernel
theorem dX3_isTakenFor_86 : decode cX3_isTakenFor 86 = .ok (.iaload, 1) := by decide +kernel
theorem dX3_isTakenFor_87 : decode cX3_isTakenFor 87 = .ok (.iadd, 1) := by decide +kernel
theorem dX3_isTakenFor_88 : decode cX3_isTakenFor 88 = .ok (.iastore, 1) := by decide +kernel
theorem dX3_isTakenFor_89 : decode cX3_isTakenFor 89 = .ok (.iinc 6 1, 3) := by decide +kernel
theorem dX3_isTakenFor_92 : decode cX3_isTakenFor 92 = .ok (.goto (-54), 3) := by decide +kernel
theorem dX3_isTakenFor_95 : decode cX3_isTakenFor 95 = .ok (.aload_n 0, 1) := by decide +kernel
theorem dX3_isTakenFor_96 : decode cX3_isTakenFor 96 = .ok (.aload_n 0, 1) := by decide +kernel
theorem dX3_isTakenFor_97 : decode cX3_isTakenFor 97 = .ok (.getfield 36, 3) := by decide +kernel
theorem dX3_isTakenFor_100 : decode cX3_isTakenFor 100 = .ok (.aload_n 0, 1) := by decide +kernel
theorem dX3_isTakenFor_101 : decode cX3_isTakenFor 101 = .ok (.getfield 19, 3) := by decide +kernel
theorem dX3_isTakenFor_104 : decode cX3_isTakenFor 104 = .ok (.iload_n 2, 1) := by decide +kernel
theorem dX3_isTakenFor_105 : decode cX3_isTakenFor 105 = .ok (.aaload, 1) := by decide +kernel
theorem dX3_isTakenFor_106 : decode cX3_isTakenFor 106 = .ok (.getfield 74, 3) := by decide +kernel
theorem dX3_isTakenFor_109 : decode cX3_isTakenFor 109 = .ok (.invokevirtual 179, 3) := by decide +kernel
theorem dX3_isTakenFor_112 : decode cX3_isTakenFor 112 = .ok (.ireturn, 1) := by decide +kernel
theorem dX3_strengthNear_0 : decode cX3_strengthNear 0 = .ok (.aload_n 1, 1) := by decide +kernel
theorem dX3_strengthNear_1 : decode cX3_strengthNear 1 = .ok (.getfield 74, 3) := by decide +kernel
theorem dX3_strengthNear_4 : decode cX3_strengthNear 4 = .ok (.iload_n 3, 1) := by decide +kernel
theorem dX3_strengthNear_5 : decode cX3_strengthNear 5 = .ok (.iaload, 1) := by decide +kernel
theorem dX3_strengthNear_6 : decode cX3_strengthNear 6 = .ok (.aload_n 0, 1) := by decide +kernel
theorem dX3_strengthNear_7 : decode cX3_strengthNear 7 = .ok (.getfield 74, 3) := by decide +kernel
theorem dX3_strengthNear_10 : decode cX3_strengthNear 10 = .ok (.iload_n 3, 1) := by decide +kernel
theorem dX3_strengthNear_11 : decode cX3_strengthNear 11 = .ok (.iaload, 1) := by decide +kernel
theorem dX3_strengthNear_12 : decode cX3_strengthNear 12 = .ok (.isub, 1) := by decide +kernel
theorem dX3_strengthNear_13 : decode cX3_strengthNear 13 = .ok (.istore 4, 2) := by decide +kernel
theorem dX3_strengthNear_15 : decode cX3_strengthNear 15 = .ok (.aload_n 0, 1) := by decide +kernel
theorem dX3_strengthNear_16 : decode cX3_strengthNear 16 = .ok (.getfield 74, 3) := by decide +kernel
theorem dX3_strengthNear_19 : decode cX3_strengthNear 19 = .ok (.iload_n 3, 1) := by decide +kernel
theorem dX3_strengthNear_20 : decode cX3_strengthNear 20 = .ok (.iaload, 1) := by decide +kernel
theorem dX3_strengthNear_21 : decode cX3_strengthNear 21 = .ok (.iload 4, 2) := by decide +kernel
theorem dX3_strengthNear_23 : decode cX3_strengthNear 23 = .ok (.iload_n 2, 1) := by decide +kernel
theorem dX3_strengthNear_24 : decode cX3_strengthNear 24 = .ok (.imul, 1) := by decide +kernel
theorem dX3_strengthNear_25 : decode cX3_strengthNear 25 = .ok (.bipush 10, 2) := by decide +kernel
theorem dX3_strengthNear_27 : decode cX3_strengthNear 27 = .ok (.idiv, 1) := by decide +kernel
theorem dX3_strengthNear_28 : decode cX3_strengthNear 28 = .ok (.iadd, 1) := by decide +kernel
theorem dX3_strengthNear_29 : decode cX3_strengthNear 29 = .ok (.ireturn, 1) := by decide +kernel
set_option maxRecDepth 20000 in
theorem ggX3_seekNewSmell_X3_tryStrengths : GoodIn wsX3_seekNewSmell wsX3_tryStrengths := goodIn_r _ [5, 6, 7, 8, 9, 4, 10, 11, 12, 13, 14, 15, 16, 17, 18, 19, 20, 21, 22, 23, 24, 25, 26, 27, 28, 29, 30, 31, 32, 33, 34, 35, 36, 37] (by decide +kernel) (by decide +kernel)
set_option maxRecDepth 20000 in
theorem gX3_seekNewSmell_X3_tryStrengths : GoodIn wsX3_seekNewSmell (wsV RX3 208 RX3 yX3_tryStrengths wsX3_tryStrengths) := goodIn_app (goodIn_of _ (by decide +kernel)) ggX3_seekNewSmell_X3_tryStrengths
theorem dX3_seekNewSmell_0 : decode cX3_seekNewSmell 0 = .ok (.iconst 0, 1) := by decide +kernel
theorem dX3_seekNewSmell_1 : decode cX3_seekNewSmell 1 = .ok (.istore_n 1, 1) := by decide +kernel
theorem dX3_seekNewSmell_2 : decode cX3_seekNewSmell 2 = .ok (.iload_n 1, 1) := by decide +kernel
theorem dX3_seekNewSmell_3 : decode cX3_seekNewSmell 3 = .ok (.bipush 9, 2) := by decide +kernel
theorem dX3_seekNewSmell_5 : decode cX3_seekNewSmell 5 = .ok (.if_icmp .ge 31, 3) := by decide +kernel
theorem dX3_seekNewSmell_8 : decode cX3_seekNewSmell 8 = .ok (.iload_n 1, 1) := by decide +kernel
theorem dX3_seekNewSmell_9 : decode cX3_seekNewSmell 9 = .ok (.iconst 1, 1) := by decide +kernel
theorem dX3_seekNewSmell_10 : decode cX3_seekNewSmell 10 = .ok (.iadd, 1) := by decide +kernel
theorem dX3_seekNewSmell_11 : decode cX3_seekNewSmell 11 = .ok (.istore_n 2, 1) := by decide +kernel
theorem dX3_seekNewSmell_12 : decode cX3_seekNewSmell 12 = .ok (.iload_n 2, 1) := by decide +kernel
theorem dX3_seekNewSmell_13 : decode cX3_seekNewSmell 13 = .ok (.bipush 9, 2) := by decide +kernel
theorem dX3_seekNewSmell_15 : decode cX3_seekNewSmell 15 = .ok (.if_icmp .ge 15, 3) := by decide +kernel
theorem dX3_seekNewSmell_18 : decode cX3_seekNewSmell 18 = .ok (.aload_n 0, 1) := by decide +kernel
theorem dX3_seekNewSmell_19 : decode cX3_seekNewSmell 19 = .ok (.iload_n 1, 1) := by decide +kernel
theorem dX3_seekNewSmell_20 : decode cX3_seekNewSmell 20 = .ok (.iload_n 2, 1) := by decide +kernel
theorem dX3_seekNewSmell_21 : decode cX3_seekNewSmell 21 = .ok (.invokevirtual 208, 3) := by decide +kernel
theorem dX3_seekNewSmell_24 : decode cX3_seekNewSmell 24 = .ok (.iinc 2 1, 3) := by decide +kernel
theorem dX3_seekNewSmell_27 : decode cX3_seekNewSmell 27 = .ok (.goto (-15), 3) := by decide +kernel
theorem dX3_seekNewSmell_30 : decode cX3_seekNewSmell 30 = .ok (.iinc 1 1, 3) := by decide +kernel
theorem dX3_seekNewSmell_33 : decode cX3_seekNewSmell 33 = .ok (.goto (-31), 3) := by decide +kernel
theorem dX3_seekNewSmell_36 : decode cX3_seekNewSmell 36 = .ok (.return_, 1) := by decide +kernel
set_option maxRecDepth 20000 in
theorem ggX3_tryStrengths_X3_leastApart : GoodIn wsX3_tryStrengths wsX3_leastApart := goodIn_r _ [6, 7, 8, 9, 10, 11, 12, 13, 14, 15, 16, 17, 18, 19, 20, 21, 22, 23, 24, 25, 26, 27, 28, 29, 30, 31, 32, 33] (by decide +kernel) (by decide +kernel)
set_option maxRecDepth 20000 in
theorem gX3_tryStrengths_X3_leastApart : GoodIn wsX3_tryStrengths (wsV RX3 212 RX3 yX3_leastApart wsX3_leastApart) := goodIn_app (goodIn_of _ (by decide +kernel)) ggX3_tryStrengths_X3_leastApart
theorem dX3_tryStrengths_0 : decode cX3_tryStrengths 0 = .ok (.iconst 0, 1) := by decide +kernel
theorem dX3_tryStrengths_1 : decode cX3_tryStrengths 1 = .ok (.istore_n 3, 1) := by decide +kernel
theorem dX3_tryStrengths_2 : decode cX3_tryStrengths 2 = .ok (.iload_n 3, 1) := by decide +kernel
theorem dX3_tryStrengths_3 : decode cX3_tryStrengths 3 = .ok (.bipush 9, 2) := by decide +kernel
theorem dX3_tryStrengths_5 : decode cX3_tryStrengths 5 = .ok (.if_icmp .gt 84, 3) := by decide +kernel
theorem dX3_tryStrengths_8 : decode cX3_tryStrengths 8 = .ok (.iconst 0, 1) := by decide +kernel
theorem dX3_tryStrengths_9 : decode cX3_tryStrengths 9 = .ok (.istore 4, 2) := by decide +kernel
theorem dX3_tryStrengths_11 : decode cX3_tryStrengths 11 = .ok (.iload 4, 2) := by decide +kernel
theorem dX3_tryStrengths_13 : decode cX3_tryStrengths 13 = .ok (.bipush 9, 2) := by decide +kernel
theorem dX3_tryStrengths_15 : decode cX3_tryStrengths 15 = .ok (.if_icmp .gt 68, 3) := by decide +kernel
theorem dX3_tryStrengths_18 : decode cX3_tryStrengths 18 = .ok (.aload_n 0, 1) := by decide +kernel
theorem dX3_tryStrengths_19 : decode cX3_tryStrengths 19 = .ok (.iload_n 1, 1) := by decide +kernel
theorem dX3_tryStrengths_20 : decode cX3_tryStrengths 20 = .ok (.iload_n 2, 1) := by decide +kernel
theorem dX3_tryStrengths_21 : decode cX3_tryStrengths 21 = .ok (.iload_n 3, 1) := by decide +kernel
theorem dX3_tryStrengths_22 : decode cX3_tryStrengths 22 = .ok (.iload 4, 2) := by decide +kernel
theorem dX3_tryStrengths_24 : decode cX3_tryStrengths 24 = .ok (.invokevirtual 212, 3) := by decide +kernel
theorem dX3_tryStrengths_27 : decode cX3_tryStrengths 27 = .ok (.istore 5, 2) := by decide +kernel
theorem dX3_tryStrengths_29 : decode cX3_tryStrengths 29 = .ok (.iload 5, 2) := by decide +kernel
theorem dX3_tryStrengths_31 : decode cX3_tryStrengths 31 = .ok (.aload_n 0, 1) := by decide +kernel
theorem dX3_tryStrengths_32 : decode cX3_tryStrengths 32 = .ok (.getfield 42, 3) := by decide +kernel
theorem dX3_tryStrengths_35 : decode cX3_tryStrengths 35 = .ok (.iconst 0, 1) := by decide +kernel
theorem dX3_tryStrengths_36 : decode cX3_tryStrengths 36 = .ok (.iaload, 1) := by decide +kernel
theorem dX3_tryStrengths_37 : decode cX3_tryStrengths 37 = .ok (.if_icmp .le 40, 3) := by decide +kernel
theorem dX3_tryStrengths_40 : decode cX3_tryStrengths 40 = .ok (.aload_n 0, 1) := by decide +kernel
theorem dX3_tryStrengths_41 : decode cX3_tryStrengths 41 = .ok (.getfield 42, 3) := by decide +kernel
theorem dX3_tryStrengths_44 : decode cX3_tryStrengths 44 = .ok (.iconst 0, 1) := by decide +kernel
theorem dX3_tryStrengths_45 : decode cX3_tryStrengths 45 = .ok (.iload 5, 2) := by decide +kernel
theorem dX3_tryStrengths_47 : decode cX3_tryStrengths 47 = .ok (.iastore, 1) := by decide +kernel
theorem dX3_tryStrengths_48 : decode cX3_tryStrengths 48 = .ok (.aload_n 0, 1) := by decide +kernel
theorem dX3_tryStrengths_49 : decode cX3_tryStrengths 49 = .ok (.getfield 42, 3) := by decide +kernel
theorem dX3_tryStrengths_52 : decode cX3_tryStrengths 52 = .ok (.iconst 1, 1) := by decide +kernel
theorem dX3_tryStrengths_53 : decode cX3_tryStrengths 53 = .ok (.iload_n 1, 1) := by decide +kernel
theorem dX3_tryStrengths_54 : decode cX3_tryStrengths 54 = .ok (.iastore, 1) := by decide +kernel
theorem dX3_tryStrengths_55 : decode cX3_tryStrengths 55 = .ok (.aload_n 0, 1) := by decide +kernel
theorem dX3_tryStrengths_56 : decode cX3_tryStrengths 56 = .ok (.getfield 42, 3) := by decide +kernel
theorem dX3_tryStrengths_59 : decode cX3_tryStrengths 59 = .ok (.iconst 2, 1) := by decide +kernel
theorem dX3_tryStrengths_60 : decode cX3_tryStrengths 60 = .ok (.iload_n 2, 1) := by decide +kernel
theorem dX3_tryStrengths_61 : decode cX3_tryStrengths 61 = .ok (.iastore, 1) := by decide +kernel
theorem dX3_tryStrengths_62 : decode cX3_tryStrengths 62 = .ok (.aload_n 0, 1) := by decide +kernel
theorem dX3_tryStrengths_63 : decode cX3_tryStrengths 63 = .ok (.getfield 42, 3) := by decide +kernel
theorem dX3_tryStrengths_66 : decode cX3_tryStrengths 66 = .ok (.iconst 3, 1) := by decide +kernel
theorem dX3_tryStrengths_67 : decode cX3_tryStrengths 67 = .ok (.iload_n 3, 1) := by decide +kernel
theorem dX3_tryStrengths_68 : decode cX3_tryStrengths 68 = .ok (.iastore, 1) := by decide +kernel
theorem dX3_tryStrengths_69 : decode cX3_tryStrengths 69 = .ok (.aload_n 0, 1) := by decide +kernel
theorem dX3_tryStrengths_70 : decode cX3_tryStrengths 70 = .ok (.getfield 42, 3) := by decide +kernel
theorem dX3_tryStrengths_73 : decode cX3_tryStrengths 73 = .ok (.iconst 4, 1) := by decide +kernel
theorem dX3_tryStrengths_74 : decode cX3_tryStrengths 74 = .ok (.iload 4, 2) := by decide +kernel
theorem dX3_tryStrengths_76 : decode cX3_tryStrengths 76 = .ok (.iastore, 1) := by decide +kernel
theorem dX3_tryStrengths_77 : decode cX3_tryStrengths 77 = .ok (.iinc 4 1, 3) := by decide +kernel
theorem dX3_tryStrengths_80 : decode cX3_tryStrengths 80 = .ok (.goto (-69), 3) := by decide +kernel
theorem dX3_tryStrengths_83 : decode cX3_tryStrengths 83 = .ok (.iinc 3 1, 3) := by decide +kernel
theorem dX3_tryStrengths_86 : decode cX3_tryStrengths 86 = .ok (.goto (-84), 3) := by decide +kernel
theorem dX3_tryStrengths_89 : decode cX3_tryStrengths 89 = .ok (.return_, 1) := by decide +kernel
theorem dX3_leastApart_0 : decode cX3_leastApart 0 = .ok (.ldc 158, 2) := by decide +kernel
theorem dX3_leastApart_2 : decode cX3_leastApart 2 = .ok (.istore 5, 2) := by decide +kernel
theorem dX3_leastApart_4 : decode cX3_leastApart 4 = .ok (.iconst 0, 1) := by decide +kernel
theorem dX3_leastApart_5 : decode cX3_leastApart 5 = .ok (.istore 6, 2) := by decide +kernel
theorem dX3_leastApart_7 : decode cX3_leastApart 7 = .ok (.iload 6, 2) := by decide +kernel
theorem dX3_leastApart_9 : decode cX3_leastApart 9 = .ok (.aload_n 0, 1) := by decide +kernel
theorem dX3_leastApart_10 : decode cX3_leastApart 10 = .ok (.getfield 63, 3) := by decide +kernel
theorem dX3_leastApart_13 : decode cX3_leastApart 13 = .ok (.if_icmp .ge 73, 3) := by decide +kernel
theorem dX3_leastApart_16 : decode cX3_leastApart 16 = .ok (.aload_n 0, 1) := by decide +kernel
theorem dX3_leastApart_17 : decode cX3_leastApart 17 = .ok (.getfield 19, 3) := by decide +kernel
theorem dX3_leastApart_20 : decode cX3_leastApart 20 = .ok (.iload 6, 2) := by decide +kernel
theorem dX3_leastApart_22 : decode cX3_leastApart 22 = .ok (.aaload, 1) := by decide +kernel
theorem dX3_leastApart_23 : decode cX3_leastApart 23 = .ok (.getfield 74, 3) := by decide +kernel
theorem dX3_leastApart_26 : decode cX3_leastApart 26 = .ok (.astore 7, 2) := by decide +kernel
theorem dX3_leastApart_28 : decode cX3_leastApart 28 = .ok (.aload_n 0, 1) := by decide +kernel
theorem dX3_leastApart_29 : decode cX3_leastApart 29 = .ok (.getfield 19, 3) := by decide +kernel
theorem dX3_leastApart_32 : decode cX3_leastApart 32 = .ok (.iload 6, 2) := by decide +kernel
theorem dX3_leastApart_34 : decode cX3_leastApart 34 = .ok (.aaload, 1) := by decide +kernel
theorem dX3_leastApart_35 : decode cX3_leastApart 35 = .ok (.getfield 101, 3) := by decide +kernel
theorem dX3_leastApart_38 : decode cX3_leastApart 38 = .ok (.aload 7, 2) := by decide +kernel
theorem dX3_leastApart_40 : decode cX3_leastApart 40 = .ok (.iload_n 1, 1) := by decide +kernel
theorem dX3_leastApart_41 : decode cX3_leastApart 41 = .ok (.iaload, 1) := by decide +kernel
theorem dX3_leastApart_42 : decode cX3_leastApart 42 = .ok (.isub, 1) := by decide +kernel
theorem dX3_leastApart_43 : decode cX3_leastApart 43 = .ok (.aload 7, 2) := by decide +kernel
theorem dX3_leastApart_45 : decode cX3_leastApart 45 = .ok (.iload_n 2, 1) := by decide +kernel
theorem dX3_leastApart_46 : decode cX3_leastApart 46 = .ok (.iaload, 1) := by decide +kernel
theorem dX3_leastApart_47 : decode cX3_leastApart 47 = .ok (.isub, 1) := by decide +kernel
theorem dX3_leastApart_48 : decode cX3_leastApart 48 = .ok (.istore 8, 2) := by decide +kernel
theorem dX3_leastApart_50 : decode cX3_leastApart 50 = .ok (.iload 5, 2) := by decide +kernel
theorem dX3_leastApart_52 : decode cX3_leastApart 52 = .ok (.iload 8, 2) := by decide +kernel
theorem dX3_leastApart_54 : decode cX3_leastApart 54 = .ok (.iload_n 3, 1) := by decide +kernel
theorem dX3_leastApart_55 : decode cX3_leastApart 55 = .ok (.aload 7, 2) := by decide +kernel
theorem dX3_leastApart_57 : decode cX3_leastApart 57 = .ok (.iload_n 1, 1) := by decide +kernel
theorem dX3_leastApart_58 : decode cX3_leastApart 58 = .ok (.iaload, 1) := by decide +kernel
theorem dX3_leastApart_59 : decode cX3_leastApart 59 = .ok (.isub, 1) := by decide +kernel
theorem dX3_leastApart_60 : decode cX3_leastApart 60 = .ok (.invokestatic 172, 3) := by decide +kernel
theorem dX3_leastApart_63 : decode cX3_leastApart 63 = .ok (.iadd, 1) := by decide +kernel
theorem dX3_leastApart_64 : decode cX3_leastApart 64 = .ok (.iload 4, 2) := by decide +kernel
theorem dX3_leastApart_66 : decode cX3_leastApart 66 = .ok (.aload 7, 2) := by decide +kernel
theorem dX3_leastApart_68 : decode cX3_leastApart 68 = .ok (.iload_n 2, 1) := by decide +kernel
theorem dX3_leastApart_69 : decode cX3_leastApart 69 = .ok (.iaload, 1) := by decide +kernel
theorem dX3_leastApart_70 : decode cX3_leastApart 70 = .ok (.isub, 1) := by decide +kernel
theorem dX3_leastApart_71 : decode cX3_leastApart 71 = .ok (.invokestatic 172, 3) := by decide +kernel
theorem dX3_leastApart_74 : decode cX3_leastApart 74 = .ok (.iadd, 1) := by decide +kernel
theorem dX3_leastApart_75 : decode cX3_leastApart 75 = .ok (.invokestatic 113, 3) := by decide +kernel
theorem dX3_leastApart_78 : decode cX3_leastApart 78 = .ok (.istore 5, 2) := by decide +kernel
theorem dX3_leastApart_80 : decode cX3_leastApart 80 = .ok (.iinc 6 1, 3) := by decide +kernel
theorem dX3_leastApart_83 : decode cX3_leastApart 83 = .ok (.goto (-76), 3) := by decide +kernel
theorem dX3_leastApart_86 : decode cX3_leastApart 86 = .ok (.iload 5, 2) := by decide +kernel
theorem dX3_leastApart_88 : decode cX3_leastApart 88 = .ok (.ireturn, 1) := by decide +kernel
set_option maxRecDepth 20000 in
theorem ggX3_odds_X3_isSign : GoodIn wsX3_odds wsX3_isSign := goodIn_r _ [10, 11, 63, 64, 65, 66, 67, 68, 69, 70, 71, 72, 73, 74, 75, 76] (by decide +kernel) (by decide +kernel)
set_option maxRecDepth 20000 in
theorem gX3_odds_X3_isSign : GoodIn wsX3_odds (wsV RX3 67 RX3 yX3_isSign wsX3_isSign) := goodIn_app (goodIn_of _ (by decide +kernel)) ggX3_odds_X3_isSign
set_option maxRecDepth 20000 in
theorem ggX3_odds_X3_spanRefusal : GoodIn wsX3_odds wsX3_spanRefusal := goodIn_r _ [15, 4, 1, 16, 17, 9, 18, 19, 20, 21, 22, 23, 24, 25, 26, 27, 28, 29, 30, 31, 32, 33, 34, 63, 64, 65, 66, 67, 68, 69, 70, 71, 72, 73, 74, 75, 76, 77, 78, 79, 80] (by decide +kernel) (by decide +kernel)
set_option maxRecDepth 20000 in
theorem gX3_odds_X3_spanRefusal : GoodIn wsX3_odds (wsV RX3 48 RX3 yX3_spanRefusal wsX3_spanRefusal) := goodIn_app (goodIn_of _ (by decide +kernel)) ggX3_odds_X3_spanRefusal
set_option maxRecDepth 20000 in
theorem ggX3_odds_X3_isDoor : GoodIn wsX3_odds wsX3_isDoor := goodIn_r _ [37, 77, 78, 79, 80] (by decide +kernel) (by decide +kernel)
set_option maxRecDepth 20000 in
theorem gX3_odds_X3_isDoor : GoodIn wsX3_odds (va_wsS RX3 223 yX3_isDoor wsX3_isDoor) := goodIn_app (goodIn_of _ (by decide +kernel)) ggX3_odds_X3_isDoor
set_option maxRecDepth 20000 in
theorem ggX3_odds_X3_countHours : GoodIn wsX3_odds wsX3_countHours := goodIn_r _ [41, 11, 5, 42, 43, 44, 45, 46, 9, 47, 48, 49, 50, 51, 52, 53, 54, 55, 56, 57, 58, 59, 63, 64, 65, 66, 67, 68, 69, 70, 71, 72, 73, 74, 75, 76, 81, 82, 83, 77, 78, 79, 80] (by decide +kernel) (by decide +kernel)
set_option maxRecDepth 20000 in
theorem gX3_odds_X3_countHours : GoodIn wsX3_odds (wsV RX3 226 RX3 yX3_countHours wsX3_countHours) := goodIn_app (goodIn_of _ (by decide +kernel)) ggX3_odds_X3_countHours
set_option maxRecDepth 20000 in
theorem ggX3_odds_X3_ofShare : GoodIn wsX3_odds wsX3_ofShare := goodIn_r _ [62] (by decide +kernel) (by decide +kernel)
set_option maxRecDepth 20000 in
theorem gX3_odds_X3_ofShare : GoodIn wsX3_odds (va_wsS RX3 230 yX3_ofShare wsX3_ofShare) := goodIn_app (goodIn_of _ (by decide +kernel)) ggX3_odds_X3_ofShare
theorem dX3_odds_0 : decode cX3_odds 0 = .ok (.aload_n 0, 1) := by decide +kernel
theorem dX3_odds_1 : decode cX3_odds 1 = .ok (.iconst 0, 1) := by decide +kernel
theorem dX3_odds_2 : decode cX3_odds 2 = .ok (.putfield 216, 3) := by decide +kernel
theorem dX3_odds_5 : decode cX3_odds 5 = .ok (.aload_n 0, 1) := by decide +kernel
theorem dX3_odds_6 : decode cX3_odds 6 = .ok (.iload_n 1, 1) := by decide +kernel
theorem dX3_odds_7 : decode cX3_odds 7 = .ok (.invokevirtual 67, 3) := by decide +kernel
theorem dX3_odds_10 : decode cX3_odds 10 = .ok (.ifCond .eq 18, 3) := by decide +kernel
theorem dX3_odds_13 : decode cX3_odds 13 = .ok (.aload_n 0, 1) := by decide +kernel
theorem dX3_odds_14 : decode cX3_odds 14 = .ok (.iload_n 3, 1) := by decide +kernel
theorem dX3_odds_15 : decode cX3_odds 15 = .ok (.iload 4, 2) := by decide +kernel
theorem dX3_odds_17 : decode cX3_odds 17 = .ok (.iload 5, 2) := by decide +kernel
theorem dX3_odds_19 : decode cX3_odds 19 = .ok (.ldc2_w 219, 3) := by decide +kernel
theorem dX3_odds_22 : decode cX3_odds 22 = .ok (.invokevirtual 48, 3) := by decide +kernel
theorem dX3_odds_25 : decode cX3_odds 25 = .ok (.ifCond .eq 7, 3) := by decide +kernel
theorem dX3_odds_28 : decode cX3_odds 28 = .ok (.ldc2_w 221, 3) := by decide +kernel
theorem dX3_odds_31 : decode cX3_odds 31 = .ok (.lreturn, 1) := by decide +kernel
theorem dX3_odds_32 : decode cX3_odds 32 = .ok (.aload_n 0, 1) := by decide +kernel
theorem dX3_odds_33 : decode cX3_odds 33 = .ok (.getfield 13, 3) := by decide +kernel
theorem dX3_odds_36 : decode cX3_odds 36 = .ok (.iload_n 3, 1) := by decide +kernel
theorem dX3_odds_37 : decode cX3_odds 37 = .ok (.aaload, 1) := by decide +kernel
theorem dX3_odds_38 : decode cX3_odds 38 = .ok (.iload 5, 2) := by decide +kernel
theorem dX3_odds_40 : decode cX3_odds 40 = .ok (.iload_n 2, 1) := by decide +kernel
theorem dX3_odds_41 : decode cX3_odds 41 = .ok (.invokestatic 223, 3) := by decide +kernel
theorem dX3_odds_44 : decode cX3_odds 44 = .ok (.ifCond .eq 14, 3) := by decide +kernel
theorem dX3_odds_47 : decode cX3_odds 47 = .ok (.iload 6, 2) := by decide +kernel
theorem dX3_odds_49 : decode cX3_odds 49 = .ok (.ifCond .lt 9, 3) := by decide +kernel
theorem dX3_odds_52 : decode cX3_odds 52 = .ok (.iload 6, 2) := by decide +kernel
theorem dX3_odds_54 : decode cX3_odds 54 = .ok (.iconst 1, 1) := by decide +kernel
theorem dX3_odds_55 : decode cX3_odds 55 = .ok (.if_icmp .le 7, 3) := by decide +kernel
theorem dX3_odds_58 : decode cX3_odds 58 = .ok (.ldc2_w 221, 3) := by decide +kernel
theorem dX3_odds_61 : decode cX3_odds 61 = .ok (.lreturn, 1) := by decide +kernel
theorem dX3_odds_62 : decode cX3_odds 62 = .ok (.aload_n 0, 1) := by decide +kernel
theorem dX3_odds_63 : decode cX3_odds 63 = .ok (.iload_n 2, 1) := by decide +kernel
theorem dX3_odds_64 : decode cX3_odds 64 = .ok (.aload_n 0, 1) := by decide +kernel
theorem dX3_odds_65 : decode cX3_odds 65 = .ok (.getfield 13, 3) := by decide +kernel
theorem dX3_odds_68 : decode cX3_odds 68 = .ok (.iload_n 3, 1) := by decide +kernel
theorem dX3_odds_69 : decode cX3_odds 69 = .ok (.aaload, 1) := by decide +kernel
theorem dX3_odds_70 : decode cX3_odds 70 = .ok (.iload 5, 2) := by decide +kernel
theorem dX3_odds_72 : decode cX3_odds 72 = .ok (.invokevirtual 226, 3) := by decide +kernel
theorem dX3_odds_75 : decode cX3_odds 75 = .ok (.istore 7, 2) := by decide +kernel
theorem dX3_odds_77 : decode cX3_odds 77 = .ok (.iload 7, 2) := by decide +kernel
theorem dX3_odds_79 : decode cX3_odds 79 = .ok (.ifCond .ne 7, 3) := by decide +kernel
theorem dX3_odds_82 : decode cX3_odds 82 = .ok (.ldc2_w 221, 3) := by decide +kernel
theorem dX3_odds_85 : decode cX3_odds 85 = .ok (.lreturn, 1) := by decide +kernel
theorem dX3_odds_86 : decode cX3_odds 86 = .ok (.aload_n 0, 1) := by decide +kernel
theorem dX3_odds_87 : decode cX3_odds 87 = .ok (.getfield 39, 3) := by decide +kernel
theorem dX3_odds_90 : decode cX3_odds 90 = .ok (.iload_n 1, 1) := by decide +kernel
theorem dX3_odds_91 : decode cX3_odds 91 = .ok (.iaload, 1) := by decide +kernel
theorem dX3_odds_92 : decode cX3_odds 92 = .ok (.iload 7, 2) := by decide +kernel
theorem dX3_odds_94 : decode cX3_odds 94 = .ok (.iload 6, 2) := by decide +kernel
theorem dX3_odds_96 : decode cX3_odds 96 = .ok (.invokestatic 230, 3) := by decide +kernel
theorem dX3_odds_99 : decode cX3_odds 99 = .ok (.i2l, 1) := by decide +kernel
theorem dX3_odds_100 : decode cX3_odds 100 = .ok (.lreturn, 1) := by decide +kernel
set_option maxRecDepth 20000 in
theorem ggX3_who_X3_spanRefusal : GoodIn wsX3_who wsX3_spanRefusal := goodIn_r _ [9, 2, 10, 11, 12, 8, 13, 14, 15, 16, 17, 18, 19, 20, 21, 22, 23, 24, 25, 26, 27, 28, 29, 55, 56, 57, 58, 59, 60, 61, 62, 63, 64, 65, 66, 67, 68, 69, 70, 71, 72] (by decide +kernel) (by decide +kernel)
set_option maxRecDepth 20000 in
theorem gX3_who_X3_spanRefusal : GoodIn wsX3_who (wsV RX3 48 RX3 yX3_spanRefusal wsX3_spanRefusal) := goodIn_app (goodIn_of _ (by decide +kernel)) ggX3_who_X3_spanRefusal
set_option maxRecDepth 20000 in
theorem ggX3_who_X3_isDoor : GoodIn wsX3_who wsX3_isDoor := goodIn_r _ [32, 69, 70, 71, 72] (by decide +kernel) (by decide +kernel)
set_option maxRecDepth 20000 in
theorem gX3_who_X3_isDoor : GoodIn wsX3_who (va_wsS RX3 223 yX3_isDoor wsX3_isDoor) := goodIn_app (goodIn_of _ (by decide +kernel)) ggX3_who_X3_isDoor
set_option maxRecDepth 20000 in
theorem ggX3_who_X3_countHours : GoodIn wsX3_who wsX3_countHours := goodIn_r _ [36, 3, 4, 37, 38, 39, 40, 41, 8, 42, 43, 44, 45, 46, 47, 48, 49, 50, 51, 52, 53, 54, 55, 56, 57, 58, 59, 60, 61, 62, 63, 64, 65, 66, 67, 68, 73, 74, 75, 69, 70, 71, 72] (by decide +kernel) (by decide +kernel)
set_option maxRecDepth 20000 in
theorem gX3_who_X3_countHours : GoodIn wsX3_who (wsV RX3 226 RX3 yX3_countHours wsX3_countHours) := goodIn_app (goodIn_of _ (by decide +kernel)) ggX3_who_X3_countHours
theorem dX3_who_0 : decode cX3_who 0 = .ok (.aload_n 0, 1) := by decide +kernel
theorem dX3_who_1 : decode cX3_who 1 = .ok (.iload_n 2, 1) := by decide +kernel
theorem dX3_who_2 : decode cX3_who 2 = .ok (.iload_n 3, 1) := by decide +kernel
theorem dX3_who_3 : decode cX3_who 3 = .ok (.iload 4, 2) := by decide +kernel
theorem dX3_who_5 : decode cX3_who 5 = .ok (.ldc2_w 219, 3) := by decide +kernel
theorem dX3_who_8 : decode cX3_who 8 = .ok (.invokevirtual 48, 3) := by decide +kernel
theorem dX3_who_11 : decode cX3_who 11 = .ok (.istore 5, 2) := by decide +kernel
theorem dX3_who_13 : decode cX3_who 13 = .ok (.iload 5, 2) := by decide +kernel
theorem dX3_who_15 : decode cX3_who 15 = .ok (.ifCond .eq 6, 3) := by decide +kernel
theorem dX3_who_18 : decode cX3_who 18 = .ok (.iload 5, 2) := by decide +kernel
theorem dX3_who_20 : decode cX3_who 20 = .ok (.ireturn, 1) := by decide +kernel
theorem dX3_who_21 : decode cX3_who 21 = .ok (.aload_n 0, 1) := by decide +kernel
theorem dX3_who_22 : decode cX3_who 22 = .ok (.getfield 13, 3) := by decide +kernel
theorem dX3_who_25 : decode cX3_who 25 = .ok (.iload_n 2, 1) := by decide +kernel
theorem dX3_who_26 : decode cX3_who 26 = .ok (.aaload, 1) := by decide +kernel
theorem dX3_who_27 : decode cX3_who 27 = .ok (.iload 4, 2) := by decide +kernel
theorem dX3_who_29 : decode cX3_who 29 = .ok (.iload_n 1, 1) := by decide +kernel
theorem dX3_who_30 : decode cX3_who 30 = .ok (.invokestatic 223, 3) := by decide +kernel
theorem dX3_who_33 : decode cX3_who 33 = .ok (.ifCond .ne 6, 3) := by decide +kernel
theorem dX3_who_36 : decode cX3_who 36 = .ok (.bipush (-2), 2) := by decide +kernel
theorem dX3_who_38 : decode cX3_who 38 = .ok (.ireturn, 1) := by decide +kernel
theorem dX3_who_39 : decode cX3_who 39 = .ok (.aload_n 0, 1) := by decide +kernel
theorem dX3_who_40 : decode cX3_who 40 = .ok (.iload_n 1, 1) := by decide +kernel
theorem dX3_who_41 : decode cX3_who 41 = .ok (.aload_n 0, 1) := by decide +kernel
theorem dX3_who_42 : decode cX3_who 42 = .ok (.getfield 13, 3) := by decide +kernel
theorem dX3_who_45 : decode cX3_who 45 = .ok (.iload_n 2, 1) := by decide +kernel
theorem dX3_who_46 : decode cX3_who 46 = .ok (.aaload, 1) := by decide +kernel
theorem dX3_who_47 : decode cX3_who 47 = .ok (.iload 4, 2) := by decide +kernel
theorem dX3_who_49 : decode cX3_who 49 = .ok (.invokevirtual 226, 3) := by decide +kernel
theorem dX3_who_52 : decode cX3_who 52 = .ok (.pop, 1) := by decide +kernel
theorem dX3_who_53 : decode cX3_who 53 = .ok (.bipush (-9), 2) := by decide +kernel
theorem dX3_who_55 : decode cX3_who 55 = .ok (.istore 6, 2) := by decide +kernel
theorem dX3_who_57 : decode cX3_who 57 = .ok (.iconst 0, 1) := by decide +kernel
theorem dX3_who_58 : decode cX3_who 58 = .ok (.istore 7, 2) := by decide +kernel
theorem dX3_who_60 : decode cX3_who 60 = .ok (.iconst 0, 1) := by decide +kernel
theorem dX3_who_61 : decode cX3_who 61 = .ok (.istore 8, 2) := by decide +kernel
theorem dX3_who_63 : decode cX3_who 63 = .ok (.iload 8, 2) := by decide +kernel
theorem dX3_who_65 : decode cX3_who 65 = .ok (.aload_n 0, 1) := by decide +kernel
theorem dX3_who_66 : decode cX3_who 66 = .ok (.getfield 63, 3) := by decide +kernel
theorem dX3_who_69 : decode cX3_who 69 = .ok (.if_icmp .ge 34, 3) := by decide +kernel
theorem dX3_who_72 : decode cX3_who 72 = .ok (.aload_n 0, 1) := by decide +kernel
theorem dX3_who_73 : decode cX3_who 73 = .ok (.getfield 39, 3) := by decide +kernel
theorem dX3_who_76 : decode cX3_who 76 = .ok (.iload 8, 2) := by decide +kernel
theorem dX3_who_78 : decode cX3_who 78 = .ok (.iaload, 1) := by decide +kernel
theorem dX3_who_79 : decode cX3_who 79 = .ok (.iload 7, 2) := by decide +kernel
theorem dX3_who_81 : decode cX3_who 81 = .ok (.if_icmp .le 16, 3) := by decide +kernel
theorem dX3_who_84 : decode cX3_who 84 = .ok (.aload_n 0, 1) := by decide +kernel
theorem dX3_who_85 : decode cX3_who 85 = .ok (.getfield 39, 3) := by decide +kernel
theorem dX3_who_88 : decode cX3_who 88 = .ok (.iload 8, 2) := by decide +kernel
theorem dX3_who_90 : decode cX3_who 90 = .ok (.iaload, 1) := by decide +kernel
theorem dX3_who_91 : decode cX3_who 91 = .ok (.istore 7, 2) := by decide +kernel
theorem dX3_who_93 : decode cX3_who 93 = .ok (.iload 8, 2) := by decide +kernel
theorem dX3_who_95 : decode cX3_who 95 = .ok (.istore 6, 2) := by decide +kernel
theorem dX3_who_97 : decode cX3_who 97 = .ok (.iinc 8 1, 3) := by decide +kernel
theorem dX3_who_100 : decode cX3_who 100 = .ok (.goto (-37), 3) := by decide +kernel
theorem dX3_who_103 : decode cX3_who 103 = .ok (.iload 6, 2) := by decide +kernel
theorem dX3_who_105 : decode cX3_who 105 = .ok (.ireturn, 1) := by decide +kernel
theorem dX3_isDoor_0 : decode cX3_isDoor 0 = .ok (.iconst 0, 1) := by decide +kernel
theorem dX3_isDoor_1 : decode cX3_isDoor 1 = .ok (.istore_n 3, 1) := by decide +kernel
theorem dX3_isDoor_2 : decode cX3_isDoor 2 = .ok (.iload_n 3, 1) := by decide +kernel
theorem dX3_isDoor_3 : decode cX3_isDoor 3 = .ok (.bipush 9, 2) := by decide +kernel
theorem dX3_isDoor_5 : decode cX3_isDoor 5 = .ok (.if_icmp .ge 33, 3) := by decide +kernel
theorem dX3_isDoor_8 : decode cX3_isDoor 8 = .ok (.aload_n 0, 1) := by decide +kernel
theorem dX3_isDoor_9 : decode cX3_isDoor 9 = .ok (.getfield 90, 3) := by decide +kernel
theorem dX3_isDoor_12 : decode cX3_isDoor 12 = .ok (.iload_n 1, 1) := by decide +kernel
theorem dX3_isDoor_13 : decode cX3_isDoor 13 = .ok (.iload_n 3, 1) := by decide +kernel
theorem dX3_isDoor_14 : decode cX3_isDoor 14 = .ok (.iadd, 1) := by decide +kernel
theorem dX3_isDoor_15 : decode cX3_isDoor 15 = .ok (.iaload, 1) := by decide +kernel
theorem dX3_isDoor_16 : decode cX3_isDoor 16 = .ok (.istore 4, 2) := by decide +kernel
theorem dX3_isDoor_18 : decode cX3_isDoor 18 = .ok (.iload 4, 2) := by decide +kernel
theorem dX3_isDoor_20 : decode cX3_isDoor 20 = .ok (.ifCond .lt 10, 3) := by decide +kernel
theorem dX3_isDoor_23 : decode cX3_isDoor 23 = .ok (.iload 4, 2) := by decide +kernel
theorem dX3_isDoor_25 : decode cX3_isDoor 25 = .ok (.bipush 99, 2) := by decide +kernel
theorem dX3_isDoor_27 : decode cX3_isDoor 27 = .ok (.if_icmp .le 5, 3) := by decide +kernel
theorem dX3_isDoor_30 : decode cX3_isDoor 30 = .ok (.iconst 0, 1) := by decide +kernel
theorem dX3_isDoor_31 : decode cX3_isDoor 31 = .ok (.ireturn, 1) := by decide +kernel
theorem dX3_isDoor_32 : decode cX3_isDoor 32 = .ok (.iinc 3 1, 3) := by decide +kernel
theorem dX3_isDoor_35 : decode cX3_isDoor 35 = .ok (.goto (-33), 3) := by decide +kernel
theorem dX3_isDoor_38 : decode cX3_isDoor 38 = .ok (.iload_n 2, 1) := by decide +kernel
theorem dX3_isDoor_39 : decode cX3_isDoor 39 = .ok (.ifCond .lt 12, 3) := by decide +kernel
theorem dX3_isDoor_42 : decode cX3_isDoor 42 = .ok (.iload_n 2, 1) := by decide +kernel
theorem dX3_isDoor_43 : decode cX3_isDoor 43 = .ok (.iconst 3, 1) := by decide +kernel
theorem dX3_isDoor_44 : decode cX3_isDoor 44 = .ok (.if_icmp .gt 7, 3) := by decide +kernel
theorem dX3_isDoor_47 : decode cX3_isDoor 47 = .ok (.iconst 1, 1) := by decide +kernel
theorem dX3_isDoor_48 : decode cX3_isDoor 48 = .ok (.goto 4, 3) := by decide +kernel
theorem dX3_isDoor_51 : decode cX3_isDoor 51 = .ok (.iconst 0, 1) := by decide +kernel
theorem dX3_isDoor_52 : decode cX3_isDoor 52 = .ok (.ireturn, 1) := by decide +kernel
set_option maxRecDepth 20000 in
theorem ggX3_countHours_X3_leftFrom : GoodIn wsX3_countHours wsX3_leftFrom := goodIn_r _ [9, 10, 11, 12, 13, 14, 15, 16, 8, 17, 18, 19, 20, 21, 36, 37, 38, 39, 40, 41, 42, 22, 23, 24, 25, 26, 27, 28, 29, 30, 31, 32, 33, 34, 35] (by decide +kernel) (by decide +kernel)
set_option maxRecDepth 20000 in
theorem gX3_countHours_X3_leftFrom : GoodIn wsX3_countHours (wsV RX3 234 RX3 yX3_leftFrom wsX3_leftFrom) := goodIn_app (goodIn_of _ (by decide +kernel)) ggX3_countHours_X3_leftFrom
theorem dX3_countHours_0 : decode cX3_countHours 0 = .ok (.iconst 0, 1) := by decide +kernel
theorem dX3_countHours_1 : decode cX3_countHours 1 = .ok (.istore 4, 2) := by decide +kernel
theorem dX3_countHours_3 : decode cX3_countHours 3 = .ok (.iconst 0, 1) := by decide +kernel
theorem dX3_countHours_4 : decode cX3_countHours 4 = .ok (.istore 5, 2) := by decide +kernel
theorem dX3_countHours_6 : decode cX3_countHours 6 = .ok (.iload 5, 2) := by decide +kernel
theorem dX3_countHours_8 : decode cX3_countHours 8 = .ok (.aload_n 0, 1) := by decide +kernel
theorem dX3_countHours_9 : decode cX3_countHours 9 = .ok (.getfield 63, 3) := by decide +kernel
theorem dX3_countHours_12 : decode cX3_countHours 12 = .ok (.if_icmp .ge 83, 3) := by decide +kernel
theorem dX3_countHours_15 : decode cX3_countHours 15 = .ok (.aload_n 0, 1) := by decide +kernel
theorem dX3_countHours_16 : decode cX3_countHours 16 = .ok (.getfield 39, 3) := by decide +kernel
theorem dX3_countHours_19 : decode cX3_countHours 19 = .ok (.iload 5, 2) := by decide +kernel
theorem dX3_countHours_21 : decode cX3_countHours 21 = .ok (.iconst 0, 1) := by decide +kernel
theorem dX3_countHours_22 : decode cX3_countHours 22 = .ok (.iastore, 1) := by decide +kernel
theorem dX3_countHours_23 : decode cX3_countHours 23 = .ok (.iconst 0, 1) := by decide +kernel
theorem dX3_countHours_24 : decode cX3_countHours 24 = .ok (.istore 6, 2) := by decide +kernel
theorem dX3_countHours_26 : decode cX3_countHours 26 = .ok (.iload 6, 2) := by decide +kernel
theorem dX3_countHours_28 : decode cX3_countHours 28 = .ok (.bipush 10, 2) := by decide +kernel
theorem dX3_countHours_30 : decode cX3_countHours 30 = .ok (.if_icmp .ge 47, 3) := by decide +kernel
theorem dX3_countHours_33 : decode cX3_countHours 33 = .ok (.aload_n 0, 1) := by decide +kernel
theorem dX3_countHours_34 : decode cX3_countHours 34 = .ok (.aload_n 0, 1) := by decide +kernel
theorem dX3_countHours_35 : decode cX3_countHours 35 = .ok (.getfield 19, 3) := by decide +kernel
theorem dX3_countHours_38 : decode cX3_countHours 38 = .ok (.iload 5, 2) := by decide +kernel
theorem dX3_countHours_40 : decode cX3_countHours 40 = .ok (.aaload, 1) := by decide +kernel
theorem dX3_countHours_41 : decode cX3_countHours 41 = .ok (.iload 6, 2) := by decide +kernel
theorem dX3_countHours_43 : decode cX3_countHours 43 = .ok (.iload 6, 2) := by decide +kernel
theorem dX3_countHours_45 : decode cX3_countHours 45 = .ok (.iload_n 1, 1) := by decide +kernel
theorem dX3_countHours_46 : decode cX3_countHours 46 = .ok (.imul, 1) := by decide +kernel
theorem dX3_countHours_47 : decode cX3_countHours 47 = .ok (.iadd, 1) := by decide +kernel
theorem dX3_countHours_48 : decode cX3_countHours 48 = .ok (.aload_n 2, 1) := by decide +kernel
theorem dX3_countHours_49 : decode cX3_countHours 49 = .ok (.iload_n 3, 1) := by decide +kernel
theorem dX3_countHours_50 : decode cX3_countHours 50 = .ok (.invokevirtual 234, 3) := by decide +kernel
theorem dX3_countHours_53 : decode cX3_countHours 53 = .ok (.aload_n 0, 1) := by decide +kernel
theorem dX3_countHours_54 : decode cX3_countHours 54 = .ok (.getfield 80, 3) := by decide +kernel
theorem dX3_countHours_57 : decode cX3_countHours 57 = .ok (.if_icmp .gt 14, 3) := by decide +kernel
theorem dX3_countHours_60 : decode cX3_countHours 60 = .ok (.aload_n 0, 1) := by decide +kernel
theorem dX3_countHours_61 : decode cX3_countHours 61 = .ok (.getfield 39, 3) := by decide +kernel
theorem dX3_countHours_64 : decode cX3_countHours 64 = .ok (.iload 5, 2) := by decide +kernel
theorem dX3_countHours_66 : decode cX3_countHours 66 = .ok (.dup2, 1) := by decide +kernel
theorem dX3_countHours_67 : decode cX3_countHours 67 = .ok (.iaload, 1) := by decide +kernel
theorem dX3_countHours_68 : decode cX3_countHours 68 = .ok (.iconst 1, 1) := by decide +kernel
theorem dX3_countHours_69 : decode cX3_countHours 69 = .ok (.iadd, 1) := by decide +kernel
theorem dX3_countHours_70 : decode cX3_countHours 70 = .ok (.iastore, 1) := by decide +kernel
theorem dX3_countHours_71 : decode cX3_countHours 71 = .ok (.iinc 6 1, 3) := by decide +kernel
theorem dX3_countHours_74 : decode cX3_countHours 74 = .ok (.goto (-48), 3) := by decide +kernel
theorem dX3_countHours_77 : decode cX3_countHours 77 = .ok (.iload 4, 2) := by decide +kernel
theorem dX3_countHours_79 : decode cX3_countHours 79 = .ok (.aload_n 0, 1) := by decide +kernel
theorem dX3_countHours_80 : decode cX3_countHours 80 = .ok (.getfield 39, 3) := by decide +kernel
theorem dX3_countHours_83 : decode cX3_countHours 83 = .ok (.iload 5, 2) := by decide +kernel
theorem dX3_countHours_85 : decode cX3_countHours 85 = .ok (.iaload, 1) := by decide +kernel
theorem dX3_countHours_86 : decode cX3_countHours 86 = .ok (.iadd, 1) := by decide +kernel
theorem dX3_countHours_87 : decode cX3_countHours 87 = .ok (.istore 4, 2) := by decide +kernel
theorem dX3_countHours_89 : decode cX3_countHours 89 = .ok (.iinc 5 1, 3) := by decide +kernel
theorem dX3_countHours_92 : decode cX3_countHours 92 = .ok (.goto (-86), 3) := by decide +kernel
theorem dX3_countHours_95 : decode cX3_countHours 95 = .ok (.iload 4, 2) := by decide +kernel
theorem dX3_countHours_97 : decode cX3_countHours 97 = .ok (.ireturn, 1) := by decide +kernel
set_option maxRecDepth 20000 in
theorem ggX3_leftFrom_X3_fade : GoodIn wsX3_leftFrom wsX3_fade := goodIn_r _ [9, 10, 11, 12, 3, 13, 21, 22, 23, 24, 25, 26, 27, 28, 29, 30, 31, 32, 33, 34, 14, 15, 16] (by decide +kernel) (by decide +kernel)
set_option maxRecDepth 20000 in
theorem gX3_leftFrom_X3_fade : GoodIn wsX3_leftFrom (wsV RX3 86 RX3 yX3_fade wsX3_fade) := goodIn_app (goodIn_of _ (by decide +kernel)) ggX3_leftFrom_X3_fade
theorem dX3_leftFrom_0 : decode cX3_leftFrom 0 = .ok (.iconst 0, 1) := by decide +kernel
theorem dX3_leftFrom_1 : decode cX3_leftFrom 1 = .ok (.istore 5, 2) := by decide +kernel
theorem dX3_leftFrom_3 : decode cX3_leftFrom 3 = .ok (.iconst 0, 1) := by decide +kernel
theorem dX3_leftFrom_4 : decode cX3_leftFrom 4 = .ok (.istore 6, 2) := by decide +kernel
theorem dX3_leftFrom_6 : decode cX3_leftFrom 6 = .ok (.iload 6, 2) := by decide +kernel
theorem dX3_leftFrom_8 : decode cX3_leftFrom 8 = .ok (.bipush 9, 2) := by decide +kernel
theorem dX3_leftFrom_10 : decode cX3_leftFrom 10 = .ok (.if_icmp .ge 50, 3) := by decide +kernel
theorem dX3_leftFrom_13 : decode cX3_leftFrom 13 = .ok (.aload_n 0, 1) := by decide +kernel
theorem dX3_leftFrom_14 : decode cX3_leftFrom 14 = .ok (.aload_n 1, 1) := by decide +kernel
theorem dX3_leftFrom_15 : decode cX3_leftFrom 15 = .ok (.iload 6, 2) := by decide +kernel
theorem dX3_leftFrom_17 : decode cX3_leftFrom 17 = .ok (.bipush 8, 2) := by decide +kernel
theorem dX3_leftFrom_19 : decode cX3_leftFrom 19 = .ok (.aload_n 1, 1) := by decide +kernel
theorem dX3_leftFrom_20 : decode cX3_leftFrom 20 = .ok (.getfield 74, 3) := by decide +kernel
theorem dX3_leftFrom_23 : decode cX3_leftFrom 23 = .ok (.iload 6, 2) := by decide +kernel
theorem dX3_leftFrom_25 : decode cX3_leftFrom 25 = .ok (.iaload, 1) := by decide +kernel
theorem dX3_leftFrom_26 : decode cX3_leftFrom 26 = .ok (.imul, 1) := by decide +kernel
theorem dX3_leftFrom_27 : decode cX3_leftFrom 27 = .ok (.iload_n 2, 1) := by decide +kernel
theorem dX3_leftFrom_28 : decode cX3_leftFrom 28 = .ok (.invokevirtual 86, 3) := by decide +kernel
theorem dX3_leftFrom_31 : decode cX3_leftFrom 31 = .ok (.istore 7, 2) := by decide +kernel
theorem dX3_leftFrom_33 : decode cX3_leftFrom 33 = .ok (.iload 5, 2) := by decide +kernel
theorem dX3_leftFrom_35 : decode cX3_leftFrom 35 = .ok (.iload 7, 2) := by decide +kernel
theorem dX3_leftFrom_37 : decode cX3_leftFrom 37 = .ok (.aload_n 3, 1) := by decide +kernel
theorem dX3_leftFrom_38 : decode cX3_leftFrom 38 = .ok (.getfield 90, 3) := by decide +kernel
theorem dX3_leftFrom_41 : decode cX3_leftFrom 41 = .ok (.iload 4, 2) := by decide +kernel
theorem dX3_leftFrom_43 : decode cX3_leftFrom 43 = .ok (.iload 6, 2) := by decide +kernel
theorem dX3_leftFrom_45 : decode cX3_leftFrom 45 = .ok (.iadd, 1) := by decide +kernel
theorem dX3_leftFrom_46 : decode cX3_leftFrom 46 = .ok (.iaload, 1) := by decide +kernel
theorem dX3_leftFrom_47 : decode cX3_leftFrom 47 = .ok (.isub, 1) := by decide +kernel
theorem dX3_leftFrom_48 : decode cX3_leftFrom 48 = .ok (.invokestatic 172, 3) := by decide +kernel
theorem dX3_leftFrom_51 : decode cX3_leftFrom 51 = .ok (.iadd, 1) := by decide +kernel
theorem dX3_leftFrom_52 : decode cX3_leftFrom 52 = .ok (.istore 5, 2) := by decide +kernel
theorem dX3_leftFrom_54 : decode cX3_leftFrom 54 = .ok (.iinc 6 1, 3) := by decide +kernel
theorem dX3_leftFrom_57 : decode cX3_leftFrom 57 = .ok (.goto (-51), 3) := by decide +kernel
theorem dX3_leftFrom_60 : decode cX3_leftFrom 60 = .ok (.iload 5, 2) := by decide +kernel
theorem dX3_leftFrom_62 : decode cX3_leftFrom 62 = .ok (.ireturn, 1) := by decide +kernel
theorem dX3_ofShare_0 : decode cX3_ofShare 0 = .ok (.iload_n 2, 1) := by decide +kernel
theorem dX3_ofShare_1 : decode cX3_ofShare 1 = .ok (.ifCond .ne 7, 3) := by decide +kernel
theorem dX3_ofShare_4 : decode cX3_ofShare 4 = .ok (.iload_n 0, 1) := by decide +kernel
theorem dX3_ofShare_5 : decode cX3_ofShare 5 = .ok (.goto 4, 3) := by decide +kernel
theorem dX3_ofShare_8 : decode cX3_ofShare 8 = .ok (.iload_n 1, 1) := by decide +kernel
theorem dX3_ofShare_9 : decode cX3_ofShare 9 = .ok (.istore_n 3, 1) := by decide +kernel
theorem dX3_ofShare_10 : decode cX3_ofShare 10 = .ok (.iload_n 1, 1) := by decide +kernel
theorem dX3_ofShare_11 : decode cX3_ofShare 11 = .ok (.istore 4, 2) := by decide +kernel
theorem dX3_ofShare_13 : decode cX3_ofShare 13 = .ok (.iload 4, 2) := by decide +kernel
theorem dX3_ofShare_15 : decode cX3_ofShare 15 = .ok (.iconst 1, 1) := by decide +kernel
theorem dX3_ofShare_16 : decode cX3_ofShare 16 = .ok (.if_icmp .le 28, 3) := by decide +kernel
theorem dX3_ofShare_19 : decode cX3_ofShare 19 = .ok (.iload_n 0, 1) := by decide +kernel
theorem dX3_ofShare_20 : decode cX3_ofShare 20 = .ok (.iload 4, 2) := by decide +kernel
theorem dX3_ofShare_22 : decode cX3_ofShare 22 = .ok (.irem, 1) := by decide +kernel
theorem dX3_ofShare_23 : decode cX3_ofShare 23 = .ok (.ifCond .ne 15, 3) := by decide +kernel
theorem dX3_ofShare_26 : decode cX3_ofShare 26 = .ok (.iload_n 1, 1) := by decide +kernel
theorem dX3_ofShare_27 : decode cX3_ofShare 27 = .ok (.iload 4, 2) := by decide +kernel
theorem dX3_ofShare_29 : decode cX3_ofShare 29 = .ok (.irem, 1) := by decide +kernel
theorem dX3_ofShare_30 : decode cX3_ofShare 30 = .ok (.ifCond .ne 8, 3) := by decide +kernel
theorem dX3_ofShare_33 : decode cX3_ofShare 33 = .ok (.iload_n 3, 1) := by decide +kernel
theorem dX3_ofShare_34 : decode cX3_ofShare 34 = .ok (.iload 4, 2) := by decide +kernel
theorem dX3_ofShare_36 : decode cX3_ofShare 36 = .ok (.idiv, 1) := by decide +kernel
theorem dX3_ofShare_37 : decode cX3_ofShare 37 = .ok (.ireturn, 1) := by decide +kernel
theorem dX3_ofShare_38 : decode cX3_ofShare 38 = .ok (.iinc 4 (-1), 3) := by decide +kernel
theorem dX3_ofShare_41 : decode cX3_ofShare 41 = .ok (.goto (-28), 3) := by decide +kernel
theorem dX3_ofShare_44 : decode cX3_ofShare 44 = .ok (.iload_n 3, 1) := by decide +kernel
theorem dX3_ofShare_45 : decode cX3_ofShare 45 = .ok (.ireturn, 1) := by decide +kernel
set_option maxRecDepth 20000 in
theorem ggX3_sheet_X3_isSheet : GoodIn wsX3_sheet wsX3_isSheet := goodIn_r _ [6] (by decide +kernel) (by decide +kernel)
set_option maxRecDepth 20000 in
theorem gX3_sheet_X3_isSheet : GoodIn wsX3_sheet (va_wsS RX3 238 yX3_isSheet wsX3_isSheet) := goodIn_app (goodIn_of _ (by decide +kernel)) ggX3_sheet_X3_isSheet
set_option maxRecDepth 20000 in
theorem ggX3_sheet_X3_refused : GoodIn wsX3_sheet wsX3_refused := goodIn_r _ [10, 1, 30, 31, 32, 33, 34, 35, 36, 37, 38, 39, 40, 41, 42, 43] (by decide +kernel) (by decide +kernel)
set_option maxRecDepth 20000 in
theorem gX3_sheet_X3_refused : GoodIn wsX3_sheet (wsV RX3 183 RX3 yX3_refused wsX3_refused) := goodIn_app (goodIn_of _ (by decide +kernel)) ggX3_sheet_X3_refused
set_option maxRecDepth 20000 in
theorem ggX3_sheet_X3_isLane : GoodIn wsX3_sheet wsX3_isLane := goodIn_r _ [13] (by decide +kernel) (by decide +kernel)
set_option maxRecDepth 20000 in
theorem gX3_sheet_X3_isLane : GoodIn wsX3_sheet (va_wsS RX3 241 yX3_isLane wsX3_isLane) := goodIn_app (goodIn_of _ (by decide +kernel)) ggX3_sheet_X3_isLane
set_option maxRecDepth 20000 in
theorem ggX3_sheet_X3_faulted : GoodIn wsX3_sheet wsX3_faulted := goodIn_r _ [17, 1, 30, 31, 32, 33, 34, 35, 36, 37, 38, 39, 40, 41, 42, 43] (by decide +kernel) (by decide +kernel)
set_option maxRecDepth 20000 in
theorem gX3_sheet_X3_faulted : GoodIn wsX3_sheet (wsV RX3 244 RX3 yX3_faulted wsX3_faulted) := goodIn_app (goodIn_of _ (by decide +kernel)) ggX3_sheet_X3_faulted
set_option maxRecDepth 20000 in
theorem ggX3_sheet_X1_renew : GoodIn wsX3_sheet wsX1_renew := goodIn_r _ [21, 22, 23, 24, 25, 26, 27, 28, 29, 44, 45, 46, 47] (by decide +kernel) (by decide +kernel)
set_option maxRecDepth 20000 in
theorem gX3_sheet_X1_renew_n247 : GoodIn wsX3_sheet (wsX1_renew) := ggX3_sheet_X1_renew
theorem dX3_sheet_0 : decode cX3_sheet 0 = .ok (.iload_n 1, 1) := by decide +kernel
theorem dX3_sheet_1 : decode cX3_sheet 1 = .ok (.invokestatic 238, 3) := by decide +kernel
theorem dX3_sheet_4 : decode cX3_sheet 4 = .ok (.ifCond .ne 9, 3) := by decide +kernel
theorem dX3_sheet_7 : decode cX3_sheet 7 = .ok (.aload_n 0, 1) := by decide +kernel
theorem dX3_sheet_8 : decode cX3_sheet 8 = .ok (.iconst (-1), 1) := by decide +kernel
theorem dX3_sheet_9 : decode cX3_sheet 9 = .ok (.invokevirtual 183, 3) := by decide +kernel
theorem dX3_sheet_12 : decode cX3_sheet 12 = .ok (.ireturn, 1) := by decide +kernel
theorem dX3_sheet_13 : decode cX3_sheet 13 = .ok (.iload_n 2, 1) := by decide +kernel
theorem dX3_sheet_14 : decode cX3_sheet 14 = .ok (.invokestatic 241, 3) := by decide +kernel
theorem dX3_sheet_17 : decode cX3_sheet 17 = .ok (.ifCond .eq 9, 3) := by decide +kernel
theorem dX3_sheet_20 : decode cX3_sheet 20 = .ok (.iload_n 3, 1) := by decide +kernel
theorem dX3_sheet_21 : decode cX3_sheet 21 = .ok (.bipush 90, 2) := by decide +kernel
theorem dX3_sheet_23 : decode cX3_sheet 23 = .ok (.if_icmp .le 10, 3) := by decide +kernel
theorem dX3_sheet_26 : decode cX3_sheet 26 = .ok (.aload_n 0, 1) := by decide +kernel
theorem dX3_sheet_27 : decode cX3_sheet 27 = .ok (.bipush (-2), 2) := by decide +kernel
theorem dX3_sheet_29 : decode cX3_sheet 29 = .ok (.invokevirtual 183, 3) := by decide +kernel
theorem dX3_sheet_32 : decode cX3_sheet 32 = .ok (.ireturn, 1) := by decide +kernel
theorem dX3_sheet_33 : decode cX3_sheet 33 = .ok (.iload_n 3, 1) := by decide +kernel
theorem dX3_sheet_34 : decode cX3_sheet 34 = .ok (.ifCond .ge 9, 3) := by decide +kernel
theorem dX3_sheet_37 : decode cX3_sheet 37 = .ok (.aload_n 0, 1) := by decide +kernel
theorem dX3_sheet_38 : decode cX3_sheet 38 = .ok (.iconst 4, 1) := by decide +kernel
theorem dX3_sheet_39 : decode cX3_sheet 39 = .ok (.invokevirtual 244, 3) := by decide +kernel
theorem dX3_sheet_42 : decode cX3_sheet 42 = .ok (.ireturn, 1) := by decide +kernel
theorem dX3_sheet_43 : decode cX3_sheet 43 = .ok (.aload_n 0, 1) := by decide +kernel
theorem dX3_sheet_44 : decode cX3_sheet 44 = .ok (.iconst 0, 1) := by decide +kernel
theorem dX3_sheet_45 : decode cX3_sheet 45 = .ok (.putfield 216, 3) := by decide +kernel
theorem dX3_sheet_48 : decode cX3_sheet 48 = .ok (.aload_n 0, 1) := by decide +kernel
theorem dX3_sheet_49 : decode cX3_sheet 49 = .ok (.getfield 13, 3) := by decide +kernel
theorem dX3_sheet_52 : decode cX3_sheet 52 = .ok (.iload_n 1, 1) := by decide +kernel
theorem dX3_sheet_53 : decode cX3_sheet 53 = .ok (.aaload, 1) := by decide +kernel
theorem dX3_sheet_54 : decode cX3_sheet 54 = .ok (.iload_n 2, 1) := by decide +kernel
theorem dX3_sheet_55 : decode cX3_sheet 55 = .ok (.iload_n 3, 1) := by decide +kernel
theorem dX3_sheet_56 : decode cX3_sheet 56 = .ok (.invokevirtual 247, 3) := by decide +kernel
theorem dX3_sheet_59 : decode cX3_sheet 59 = .ok (.iconst 1, 1) := by decide +kernel
theorem dX3_sheet_60 : decode cX3_sheet 60 = .ok (.ireturn, 1) := by decide +kernel
set_option maxRecDepth 20000 in
theorem ggX3_put_X3_isSheet : GoodIn wsX3_put wsX3_isSheet := goodIn_r _ [6] (by decide +kernel) (by decide +kernel)
set_option maxRecDepth 20000 in
theorem gX3_put_X3_isSheet : GoodIn wsX3_put (va_wsS RX3 238 yX3_isSheet wsX3_isSheet) := goodIn_app (goodIn_of _ (by decide +kernel)) ggX3_put_X3_isSheet
set_option maxRecDepth 20000 in
theorem ggX3_put_X3_refused : GoodIn wsX3_put wsX3_refused := goodIn_r _ [10, 2, 24, 25, 26, 27, 28, 29, 30, 31, 32, 33, 34, 35, 36, 37] (by decide +kernel) (by decide +kernel)
set_option maxRecDepth 20000 in
theorem gX3_put_X3_refused : GoodIn wsX3_put (wsV RX3 183 RX3 yX3_refused wsX3_refused) := goodIn_app (goodIn_of _ (by decide +kernel)) ggX3_put_X3_refused
set_option maxRecDepth 20000 in
theorem ggX3_put_X3_faulted : GoodIn wsX3_put wsX3_faulted := goodIn_r _ [14, 2, 24, 25, 26, 27, 28, 29, 30, 31, 32, 33, 34, 35, 36, 37] (by decide +kernel) (by decide +kernel)
set_option maxRecDepth 20000 in
theorem gX3_put_X3_faulted : GoodIn wsX3_put (wsV RX3 244 RX3 yX3_faulted wsX3_faulted) := goodIn_app (goodIn_of _ (by decide +kernel)) ggX3_put_X3_faulted
set_option maxRecDepth 20000 in
theorem ggX3_put_X1_lacks : GoodIn wsX3_put wsX1_lacks := goodIn_r _ [18, 19, 38, 39, 40, 41] (by decide +kernel) (by decide +kernel)
set_option maxRecDepth 20000 in
theorem gX3_put_X1_lacks_n254 : GoodIn wsX3_put (wsX1_lacks) := ggX3_put_X1_lacks
set_option maxRecDepth 20000 in
theorem ggX3_put_X1_cut : GoodIn wsX3_put wsX1_cut := goodIn_r _ [22, 23, 38, 39, 40, 41] (by decide +kernel) (by decide +kernel)
set_option maxRecDepth 20000 in
theorem gX3_put_X1_cut_n258 : GoodIn wsX3_put (wsX1_cut) := ggX3_put_X1_cut
theorem dX3_put_0 : decode cX3_put 0 = .ok (.iload_n 1, 1) := by decide +kernel
theorem dX3_put_1 : decode cX3_put 1 = .ok (.invokestatic 238, 3) := by decide +kernel
theorem dX3_put_4 : decode cX3_put 4 = .ok (.ifCond .ne 9, 3) := by decide +kernel
theorem dX3_put_7 : decode cX3_put 7 = .ok (.aload_n 0, 1) := by decide +kernel
theorem dX3_put_8 : decode cX3_put 8 = .ok (.iconst (-1), 1) := by decide +kernel
theorem dX3_put_9 : decode cX3_put 9 = .ok (.invokevirtual 183, 3) := by decide +kernel
theorem dX3_put_12 : decode cX3_put 12 = .ok (.ireturn, 1) := by decide +kernel
theorem dX3_put_13 : decode cX3_put 13 = .ok (.aload_n 0, 1) := by decide +kernel
theorem dX3_put_14 : decode cX3_put 14 = .ok (.getfield 13, 3) := by decide +kernel
theorem dX3_put_17 : decode cX3_put 17 = .ok (.iload_n 1, 1) := by decide +kernel
theorem dX3_put_18 : decode cX3_put 18 = .ok (.aaload, 1) := by decide +kernel
theorem dX3_put_19 : decode cX3_put 19 = .ok (.astore 4, 2) := by decide +kernel
theorem dX3_put_21 : decode cX3_put 21 = .ok (.aload 4, 2) := by decide +kernel
theorem dX3_put_23 : decode cX3_put 23 = .ok (.getfield 250, 3) := by decide +kernel
theorem dX3_put_26 : decode cX3_put 26 = .ok (.ifCond .ne 9, 3) := by decide +kernel
theorem dX3_put_29 : decode cX3_put 29 = .ok (.aload_n 0, 1) := by decide +kernel
theorem dX3_put_30 : decode cX3_put 30 = .ok (.iconst 1, 1) := by decide +kernel
theorem dX3_put_31 : decode cX3_put 31 = .ok (.invokevirtual 244, 3) := by decide +kernel
theorem dX3_put_34 : decode cX3_put 34 = .ok (.ireturn, 1) := by decide +kernel
theorem dX3_put_35 : decode cX3_put 35 = .ok (.aload 4, 2) := by decide +kernel
theorem dX3_put_37 : decode cX3_put 37 = .ok (.iload_n 2, 1) := by decide +kernel
theorem dX3_put_38 : decode cX3_put 38 = .ok (.lconst 1, 1) := by decide +kernel
theorem dX3_put_39 : decode cX3_put 39 = .ok (.invokevirtual 254, 3) := by decide +kernel
theorem dX3_put_42 : decode cX3_put 42 = .ok (.ifCond .eq 9, 3) := by decide +kernel
theorem dX3_put_45 : decode cX3_put 45 = .ok (.aload_n 0, 1) := by decide +kernel
theorem dX3_put_46 : decode cX3_put 46 = .ok (.iconst 3, 1) := by decide +kernel
theorem dX3_put_47 : decode cX3_put 47 = .ok (.invokevirtual 244, 3) := by decide +kernel
theorem dX3_put_50 : decode cX3_put 50 = .ok (.ireturn, 1) := by decide +kernel
theorem dX3_put_51 : decode cX3_put 51 = .ok (.aload_n 0, 1) := by decide +kernel
theorem dX3_put_52 : decode cX3_put 52 = .ok (.iconst 0, 1) := by decide +kernel
theorem dX3_put_53 : decode cX3_put 53 = .ok (.putfield 216, 3) := by decide +kernel
theorem dX3_put_56 : decode cX3_put 56 = .ok (.aload 4, 2) := by decide +kernel
theorem dX3_put_58 : decode cX3_put 58 = .ok (.getfield 90, 3) := by decide +kernel
theorem dX3_put_61 : decode cX3_put 61 = .ok (.iload_n 2, 1) := by decide +kernel
theorem dX3_put_62 : decode cX3_put 62 = .ok (.aload 4, 2) := by decide +kernel
theorem dX3_put_64 : decode cX3_put 64 = .ok (.iload_n 3, 1) := by decide +kernel
theorem dX3_put_65 : decode cX3_put 65 = .ok (.invokevirtual 258, 3) := by decide +kernel
theorem dX3_put_68 : decode cX3_put 68 = .ok (.iastore, 1) := by decide +kernel
theorem dX3_put_69 : decode cX3_put 69 = .ok (.iconst 1, 1) := by decide +kernel
theorem dX3_put_70 : decode cX3_put 70 = .ok (.ireturn, 1) := by decide +kernel
set_option maxRecDepth 20000 in
theorem ggX3_cell_X3_spanRefusal : GoodIn wsX3_cell wsX3_spanRefusal := goodIn_r _ [7, 2, 8, 9, 10, 6, 11, 12, 13, 14, 15, 16, 17, 18, 19, 20, 21, 22, 23, 24, 25, 26, 27, 28, 29, 30, 31, 32, 33, 34, 35, 36, 37, 38, 39, 40, 41, 42, 43, 44, 45] (by decide +kernel) (by decide +kernel)
set_option maxRecDepth 20000 in
theorem gX3_cell_X3_spanRefusal : GoodIn wsX3_cell (wsV RX3 48 RX3 yX3_spanRefusal wsX3_spanRefusal) := goodIn_app (goodIn_of _ (by decide +kernel)) ggX3_cell_X3_spanRefusal
theorem dX3_cell_0 : decode cX3_cell 0 = .ok (.aload_n 0, 1) := by decide +kernel
theorem dX3_cell_1 : decode cX3_cell 1 = .ok (.iload_n 1, 1) := by decide +kernel
theorem dX3_cell_2 : decode cX3_cell 2 = .ok (.iload_n 3, 1) := by decide +kernel
theorem dX3_cell_3 : decode cX3_cell 3 = .ok (.iload_n 2, 1) := by decide +kernel
theorem dX3_cell_4 : decode cX3_cell 4 = .ok (.lconst 1, 1) := by decide +kernel
theorem dX3_cell_5 : decode cX3_cell 5 = .ok (.invokevirtual 48, 3) := by decide +kernel
theorem dX3_cell_8 : decode cX3_cell 8 = .ok (.ifCond .eq 7, 3) := by decide +kernel
theorem dX3_cell_11 : decode cX3_cell 11 = .ok (.ldc2_w 221, 3) := by decide +kernel
theorem dX3_cell_14 : decode cX3_cell 14 = .ok (.lreturn, 1) := by decide +kernel
theorem dX3_cell_15 : decode cX3_cell 15 = .ok (.aload_n 0, 1) := by decide +kernel
theorem dX3_cell_16 : decode cX3_cell 16 = .ok (.getfield 13, 3) := by decide +kernel
theorem dX3_cell_19 : decode cX3_cell 19 = .ok (.iload_n 1, 1) := by decide +kernel
theorem dX3_cell_20 : decode cX3_cell 20 = .ok (.aaload, 1) := by decide +kernel
theorem dX3_cell_21 : decode cX3_cell 21 = .ok (.getfield 90, 3) := by decide +kernel
theorem dX3_cell_24 : decode cX3_cell 24 = .ok (.iload_n 2, 1) := by decide +kernel
theorem dX3_cell_25 : decode cX3_cell 25 = .ok (.iaload, 1) := by decide +kernel
theorem dX3_cell_26 : decode cX3_cell 26 = .ok (.i2l, 1) := by decide +kernel
theorem dX3_cell_27 : decode cX3_cell 27 = .ok (.lreturn, 1) := by decide +kernel
theorem dX3_fault_0 : decode cX3_fault 0 = .ok (.aload_n 0, 1) := by decide +kernel
theorem dX3_fault_1 : decode cX3_fault 1 = .ok (.getfield 216, 3) := by decide +kernel
theorem dX3_fault_4 : decode cX3_fault 4 = .ok (.ireturn, 1) := by decide +kernel
set_option maxRecDepth 20000 in
theorem ggX3_spanRefusal_X3_isSheet : GoodIn wsX3_spanRefusal wsX3_isSheet := goodIn_r _ [6] (by decide +kernel) (by decide +kernel)
set_option maxRecDepth 20000 in
theorem gX3_spanRefusal_X3_isSheet : GoodIn wsX3_spanRefusal (va_wsS RX3 238 yX3_isSheet wsX3_isSheet) := goodIn_app (goodIn_of _ (by decide +kernel)) ggX3_spanRefusal_X3_isSheet
set_option maxRecDepth 20000 in
theorem ggX3_spanRefusal_X3_refused : GoodIn wsX3_spanRefusal wsX3_refused := goodIn_r _ [10, 2, 23, 24, 25, 26, 27, 28, 29, 30, 31, 32, 33, 34, 35, 36] (by decide +kernel) (by decide +kernel)
set_option maxRecDepth 20000 in
theorem gX3_spanRefusal_X3_refused : GoodIn wsX3_spanRefusal (wsV RX3 183 RX3 yX3_refused wsX3_refused) := goodIn_app (goodIn_of _ (by decide +kernel)) ggX3_spanRefusal_X3_refused
set_option maxRecDepth 20000 in
theorem ggX3_spanRefusal_X3_isLane : GoodIn wsX3_spanRefusal wsX3_isLane := goodIn_r _ [13] (by decide +kernel) (by decide +kernel)
set_option maxRecDepth 20000 in
theorem gX3_spanRefusal_X3_isLane : GoodIn wsX3_spanRefusal (va_wsS RX3 241 yX3_isLane wsX3_isLane) := goodIn_app (goodIn_of _ (by decide +kernel)) ggX3_spanRefusal_X3_isLane
set_option maxRecDepth 20000 in
theorem ggX3_spanRefusal_X3_faulted : GoodIn wsX3_spanRefusal wsX3_faulted := goodIn_r _ [17, 2, 23, 24, 25, 26, 27, 28, 29, 30, 31, 32, 33, 34, 35, 36] (by decide +kernel) (by decide +kernel)
set_option maxRecDepth 20000 in
theorem gX3_spanRefusal_X3_faulted : GoodIn wsX3_spanRefusal (wsV RX3 244 RX3 yX3_faulted wsX3_faulted) := goodIn_app (goodIn_of _ (by decide +kernel)) ggX3_spanRefusal_X3_faulted
set_option maxRecDepth 20000 in
theorem ggX3_spanRefusal_X1_lacks : GoodIn wsX3_spanRefusal wsX1_lacks := goodIn_r _ [21, 22, 37, 38, 39, 40] (by decide +kernel) (by decide +kernel)
set_option maxRecDepth 20000 in
theorem gX3_spanRefusal_X1_lacks_n254 : GoodIn wsX3_spanRefusal (wsX1_lacks) := ggX3_spanRefusal_X1_lacks
theorem dX3_spanRefusal_0 : decode cX3_spanRefusal 0 = .ok (.iload_n 1, 1) := by decide +kernel
theorem dX3_spanRefusal_1 : decode cX3_spanRefusal 1 = .ok (.invokestatic 238, 3) := by decide +kernel
theorem dX3_spanRefusal_4 : decode cX3_spanRefusal 4 = .ok (.ifCond .ne 9, 3) := by decide +kernel
theorem dX3_spanRefusal_7 : decode cX3_spanRefusal 7 = .ok (.aload_n 0, 1) := by decide +kernel
theorem dX3_spanRefusal_8 : decode cX3_spanRefusal 8 = .ok (.iconst (-1), 1) := by decide +kernel
theorem dX3_spanRefusal_9 : decode cX3_spanRefusal 9 = .ok (.invokevirtual 183, 3) := by decide +kernel
theorem dX3_spanRefusal_12 : decode cX3_spanRefusal 12 = .ok (.ireturn, 1) := by decide +kernel
theorem dX3_spanRefusal_13 : decode cX3_spanRefusal 13 = .ok (.iload_n 2, 1) := by decide +kernel
theorem dX3_spanRefusal_14 : decode cX3_spanRefusal 14 = .ok (.invokestatic 241, 3) := by decide +kernel
theorem dX3_spanRefusal_17 : decode cX3_spanRefusal 17 = .ok (.ifCond .ne 10, 3) := by decide +kernel
theorem dX3_spanRefusal_20 : decode cX3_spanRefusal 20 = .ok (.aload_n 0, 1) := by decide +kernel
theorem dX3_spanRefusal_21 : decode cX3_spanRefusal 21 = .ok (.bipush (-2), 2) := by decide +kernel
theorem dX3_spanRefusal_23 : decode cX3_spanRefusal 23 = .ok (.invokevirtual 183, 3) := by decide +kernel
theorem dX3_spanRefusal_26 : decode cX3_spanRefusal 26 = .ok (.ireturn, 1) := by decide +kernel
theorem dX3_spanRefusal_27 : decode cX3_spanRefusal 27 = .ok (.aload_n 0, 1) := by decide +kernel
theorem dX3_spanRefusal_28 : decode cX3_spanRefusal 28 = .ok (.getfield 13, 3) := by decide +kernel
theorem dX3_spanRefusal_31 : decode cX3_spanRefusal 31 = .ok (.iload_n 1, 1) := by decide +kernel
theorem dX3_spanRefusal_32 : decode cX3_spanRefusal 32 = .ok (.aaload, 1) := by decide +kernel
theorem dX3_spanRefusal_33 : decode cX3_spanRefusal 33 = .ok (.astore 6, 2) := by decide +kernel
theorem dX3_spanRefusal_35 : decode cX3_spanRefusal 35 = .ok (.aload 6, 2) := by decide +kernel
theorem dX3_spanRefusal_37 : decode cX3_spanRefusal 37 = .ok (.getfield 250, 3) := by decide +kernel
theorem dX3_spanRefusal_40 : decode cX3_spanRefusal 40 = .ok (.ifCond .eq 18, 3) := by decide +kernel
theorem dX3_spanRefusal_43 : decode cX3_spanRefusal 43 = .ok (.aload 6, 2) := by decide +kernel
theorem dX3_spanRefusal_45 : decode cX3_spanRefusal 45 = .ok (.getfield 261, 3) := by decide +kernel
theorem dX3_spanRefusal_48 : decode cX3_spanRefusal 48 = .ok (.iload_n 2, 1) := by decide +kernel
theorem dX3_spanRefusal_49 : decode cX3_spanRefusal 49 = .ok (.if_icmp .eq 9, 3) := by decide +kernel
theorem dX3_spanRefusal_52 : decode cX3_spanRefusal 52 = .ok (.aload_n 0, 1) := by decide +kernel
theorem dX3_spanRefusal_53 : decode cX3_spanRefusal 53 = .ok (.iconst 2, 1) := by decide +kernel
theorem dX3_spanRefusal_54 : decode cX3_spanRefusal 54 = .ok (.invokevirtual 244, 3) := by decide +kernel
theorem dX3_spanRefusal_57 : decode cX3_spanRefusal 57 = .ok (.ireturn, 1) := by decide +kernel
theorem dX3_spanRefusal_58 : decode cX3_spanRefusal 58 = .ok (.aload 6, 2) := by decide +kernel
theorem dX3_spanRefusal_60 : decode cX3_spanRefusal 60 = .ok (.getfield 250, 3) := by decide +kernel
theorem dX3_spanRefusal_63 : decode cX3_spanRefusal 63 = .ok (.ifCond .ne 9, 3) := by decide +kernel
theorem dX3_spanRefusal_66 : decode cX3_spanRefusal 66 = .ok (.aload_n 0, 1) := by decide +kernel
theorem dX3_spanRefusal_67 : decode cX3_spanRefusal 67 = .ok (.iconst 1, 1) := by decide +kernel
theorem dX3_spanRefusal_68 : decode cX3_spanRefusal 68 = .ok (.invokevirtual 244, 3) := by decide +kernel
theorem dX3_spanRefusal_71 : decode cX3_spanRefusal 71 = .ok (.ireturn, 1) := by decide +kernel
theorem dX3_spanRefusal_72 : decode cX3_spanRefusal 72 = .ok (.lload 4, 2) := by decide +kernel
theorem dX3_spanRefusal_74 : decode cX3_spanRefusal 74 = .ok (.lconst 0, 1) := by decide +kernel
theorem dX3_spanRefusal_75 : decode cX3_spanRefusal 75 = .ok (.lcmp, 1) := by decide +kernel
theorem dX3_spanRefusal_76 : decode cX3_spanRefusal 76 = .ok (.ifCond .ge 9, 3) := by decide +kernel
theorem dX3_spanRefusal_79 : decode cX3_spanRefusal 79 = .ok (.aload_n 0, 1) := by decide +kernel
theorem dX3_spanRefusal_80 : decode cX3_spanRefusal 80 = .ok (.iconst 4, 1) := by decide +kernel
theorem dX3_spanRefusal_81 : decode cX3_spanRefusal 81 = .ok (.invokevirtual 244, 3) := by decide +kernel
theorem dX3_spanRefusal_84 : decode cX3_spanRefusal 84 = .ok (.ireturn, 1) := by decide +kernel
theorem dX3_spanRefusal_85 : decode cX3_spanRefusal 85 = .ok (.aload 6, 2) := by decide +kernel
theorem dX3_spanRefusal_87 : decode cX3_spanRefusal 87 = .ok (.iload_n 3, 1) := by decide +kernel
theorem dX3_spanRefusal_88 : decode cX3_spanRefusal 88 = .ok (.lload 4, 2) := by decide +kernel
theorem dX3_spanRefusal_90 : decode cX3_spanRefusal 90 = .ok (.invokevirtual 254, 3) := by decide +kernel
theorem dX3_spanRefusal_93 : decode cX3_spanRefusal 93 = .ok (.ifCond .eq 9, 3) := by decide +kernel
theorem dX3_spanRefusal_96 : decode cX3_spanRefusal 96 = .ok (.aload_n 0, 1) := by decide +kernel
theorem dX3_spanRefusal_97 : decode cX3_spanRefusal 97 = .ok (.iconst 3, 1) := by decide +kernel
theorem dX3_spanRefusal_98 : decode cX3_spanRefusal 98 = .ok (.invokevirtual 244, 3) := by decide +kernel
theorem dX3_spanRefusal_101 : decode cX3_spanRefusal 101 = .ok (.ireturn, 1) := by decide +kernel
theorem dX3_spanRefusal_102 : decode cX3_spanRefusal 102 = .ok (.aload_n 0, 1) := by decide +kernel
theorem dX3_spanRefusal_103 : decode cX3_spanRefusal 103 = .ok (.iconst 0, 1) := by decide +kernel
theorem dX3_spanRefusal_104 : decode cX3_spanRefusal 104 = .ok (.putfield 216, 3) := by decide +kernel
theorem dX3_spanRefusal_107 : decode cX3_spanRefusal 107 = .ok (.iconst 0, 1) := by decide +kernel
theorem dX3_spanRefusal_108 : decode cX3_spanRefusal 108 = .ok (.ireturn, 1) := by decide +kernel
theorem dX3_refused_0 : decode cX3_refused 0 = .ok (.aload_n 0, 1) := by decide +kernel
theorem dX3_refused_1 : decode cX3_refused 1 = .ok (.iconst 0, 1) := by decide +kernel
theorem dX3_refused_2 : decode cX3_refused 2 = .ok (.putfield 216, 3) := by decide +kernel
theorem dX3_refused_5 : decode cX3_refused 5 = .ok (.iload_n 1, 1) := by decide +kernel
theorem dX3_refused_6 : decode cX3_refused 6 = .ok (.ireturn, 1) := by decide +kernel
theorem dX3_faulted_0 : decode cX3_faulted 0 = .ok (.aload_n 0, 1) := by decide +kernel
theorem dX3_faulted_1 : decode cX3_faulted 1 = .ok (.iload_n 1, 1) := by decide +kernel
theorem dX3_faulted_2 : decode cX3_faulted 2 = .ok (.putfield 216, 3) := by decide +kernel
theorem dX3_faulted_5 : decode cX3_faulted 5 = .ok (.bipush (-10), 2) := by decide +kernel
theorem dX3_faulted_7 : decode cX3_faulted 7 = .ok (.iload_n 1, 1) := by decide +kernel
theorem dX3_faulted_8 : decode cX3_faulted 8 = .ok (.isub, 1) := by decide +kernel
theorem dX3_faulted_9 : decode cX3_faulted 9 = .ok (.ireturn, 1) := by decide +kernel
theorem dX3_isSheet_0 : decode cX3_isSheet 0 = .ok (.iload_n 0, 1) := by decide +kernel
theorem dX3_isSheet_1 : decode cX3_isSheet 1 = .ok (.ifCond .lt 12, 3) := by decide +kernel
theorem dX3_isSheet_4 : decode cX3_isSheet 4 = .ok (.iload_n 0, 1) := by decide +kernel
theorem dX3_isSheet_5 : decode cX3_isSheet 5 = .ok (.iconst 4, 1) := by decide +kernel
theorem dX3_isSheet_6 : decode cX3_isSheet 6 = .ok (.if_icmp .ge 7, 3) := by decide +kernel
theorem dX3_isSheet_9 : decode cX3_isSheet 9 = .ok (.iconst 1, 1) := by decide +kernel
theorem dX3_isSheet_10 : decode cX3_isSheet 10 = .ok (.goto 4, 3) := by decide +kernel
theorem dX3_isSheet_13 : decode cX3_isSheet 13 = .ok (.iconst 0, 1) := by decide +kernel
theorem dX3_isSheet_14 : decode cX3_isSheet 14 = .ok (.ireturn, 1) := by decide +kernel
theorem dX3_isLane_0 : decode cX3_isLane 0 = .ok (.iload_n 0, 1) := by decide +kernel
theorem dX3_isLane_1 : decode cX3_isLane 1 = .ok (.ifCond .lt 12, 3) := by decide +kernel
theorem dX3_isLane_4 : decode cX3_isLane 4 = .ok (.iload_n 0, 1) := by decide +kernel
theorem dX3_isLane_5 : decode cX3_isLane 5 = .ok (.iconst 3, 1) := by decide +kernel
theorem dX3_isLane_6 : decode cX3_isLane 6 = .ok (.if_icmp .ge 7, 3) := by decide +kernel
theorem dX3_isLane_9 : decode cX3_isLane 9 = .ok (.iconst 1, 1) := by decide +kernel
theorem dX3_isLane_10 : decode cX3_isLane 10 = .ok (.goto 4, 3) := by decide +kernel
theorem dX3_isLane_13 : decode cX3_isLane 13 = .ok (.iconst 0, 1) := by decide +kernel
theorem dX3_isLane_14 : decode cX3_isLane 14 = .ok (.ireturn, 1) := by decide +kernel

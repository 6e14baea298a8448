theorem dX6_thrown_0 : decode cX6_thrown 0 = .ok (.aload_n 0, 1) := by decide +kernel
theorem dX6_thrown_1 : decode cX6_thrown 1 = .ok (.getfield 1, 3) := by decide +kernel
theorem dX6_thrown_4 : decode cX6_thrown 4 = .ok (.ireturn, 1) := by decide +kernel
theorem dX6_fails_0 : decode cX6_fails 0 = .ok (.aload_n 0, 1) := by decide +kernel
theorem dX6_fails_1 : decode cX6_fails 1 = .ok (.iload_n 1, 1) := by decide +kernel
theorem dX6_fails_2 : decode cX6_fails 2 = .ok (.putfield 1, 3) := by decide +kernel
theorem dX6_fails_5 : decode cX6_fails 5 = .ok (.iload_n 1, 1) := by decide +kernel
theorem dX6_fails_6 : decode cX6_fails 6 = .ok (.ifCond .eq 7, 3) := by decide +kernel
theorem dX6_fails_9 : decode cX6_fails 9 = .ok (.iconst 1, 1) := by decide +kernel
theorem dX6_fails_10 : decode cX6_fails 10 = .ok (.goto 4, 3) := by decide +kernel
theorem dX6_fails_13 : decode cX6_fails 13 = .ok (.iconst 0, 1) := by decide +kernel
theorem dX6_fails_14 : decode cX6_fails 14 = .ok (.ireturn, 1) := by decide +kernel
set_option maxRecDepth 20000 in
theorem ggX6_init_X6_first : GoodIn wsX6_init wsX6_first := goodIn_r _ [28, 10, 8, 11, 9, 12, 13, 29, 30, 31, 32, 33, 34, 35, 27, 36, 37, 38, 39, 40, 41, 42, 43, 44, 45, 46, 47, 48, 49, 50, 51, 52, 53, 54, 55, 56, 57, 58, 59, 60, 61, 62, 63, 64, 65] (by decide +kernel) (by decide +kernel)
set_option maxRecDepth 20000 in
theorem gX6_init_X6_first : GoodIn wsX6_init (wsV RX6 62 RX6 yX6_first wsX6_first) := goodIn_app (goodIn_of _ (by decide +kernel)) ggX6_init_X6_first
theorem dX6_init_0 : decode cX6_init 0 = .ok (.aload_n 0, 1) := by decide +kernel
theorem dX6_init_1 : decode cX6_init 1 = .ok (.invokespecial 7, 3) := by decide +kernel
theorem dX6_init_4 : decode cX6_init 4 = .ok (.aload_n 0, 1) := by decide +kernel
theorem dX6_init_5 : decode cX6_init 5 = .ok (.iconst 1, 1) := by decide +kernel
theorem dX6_init_6 : decode cX6_init 6 = .ok (.putfield 13, 3) := by decide +kernel
theorem dX6_init_9 : decode cX6_init 9 = .ok (.aload_n 0, 1) := by decide +kernel
theorem dX6_init_10 : decode cX6_init 10 = .ok (.iconst 1, 1) := by decide +kernel
theorem dX6_init_11 : decode cX6_init 11 = .ok (.putfield 16, 3) := by decide +kernel
theorem dX6_init_14 : decode cX6_init 14 = .ok (.aload_n 0, 1) := by decide +kernel
theorem dX6_init_15 : decode cX6_init 15 = .ok (.iconst 1, 1) := by decide +kernel
theorem dX6_init_16 : decode cX6_init 16 = .ok (.putfield 19, 3) := by decide +kernel
theorem dX6_init_19 : decode cX6_init 19 = .ok (.aload_n 0, 1) := by decide +kernel
theorem dX6_init_20 : decode cX6_init 20 = .ok (.bipush 8, 2) := by decide +kernel
theorem dX6_init_22 : decode cX6_init 22 = .ok (.newarray .int, 2) := by decide +kernel
theorem dX6_init_24 : decode cX6_init 24 = .ok (.putfield 22, 3) := by decide +kernel
theorem dX6_init_27 : decode cX6_init 27 = .ok (.aload_n 0, 1) := by decide +kernel
theorem dX6_init_28 : decode cX6_init 28 = .ok (.iconst 3, 1) := by decide +kernel
theorem dX6_init_29 : decode cX6_init 29 = .ok (.newarray .int, 2) := by decide +kernel
theorem dX6_init_31 : decode cX6_init 31 = .ok (.putfield 26, 3) := by decide +kernel
theorem dX6_init_34 : decode cX6_init 34 = .ok (.aload_n 0, 1) := by decide +kernel
theorem dX6_init_35 : decode cX6_init 35 = .ok (.bipush 8, 2) := by decide +kernel
theorem dX6_init_37 : decode cX6_init 37 = .ok (.newarray .int, 2) := by decide +kernel
theorem dX6_init_39 : decode cX6_init 39 = .ok (.putfield 29, 3) := by decide +kernel
theorem dX6_init_42 : decode cX6_init 42 = .ok (.aload_n 0, 1) := by decide +kernel
theorem dX6_init_43 : decode cX6_init 43 = .ok (.iconst 3, 1) := by decide +kernel
theorem dX6_init_44 : decode cX6_init 44 = .ok (.newarray .int, 2) := by decide +kernel
theorem dX6_init_46 : decode cX6_init 46 = .ok (.putfield 32, 3) := by decide +kernel
theorem dX6_init_49 : decode cX6_init 49 = .ok (.aload_n 0, 1) := by decide +kernel
theorem dX6_init_50 : decode cX6_init 50 = .ok (.iconst 4, 1) := by decide +kernel
theorem dX6_init_51 : decode cX6_init 51 = .ok (.newarray .int, 2) := by decide +kernel
theorem dX6_init_53 : decode cX6_init 53 = .ok (.putfield 35, 3) := by decide +kernel
theorem dX6_init_56 : decode cX6_init 56 = .ok (.aload_n 0, 1) := by decide +kernel
theorem dX6_init_57 : decode cX6_init 57 = .ok (.iconst 4, 1) := by decide +kernel
theorem dX6_init_58 : decode cX6_init 58 = .ok (.newarray .int, 2) := by decide +kernel
theorem dX6_init_60 : decode cX6_init 60 = .ok (.putfield 38, 3) := by decide +kernel
theorem dX6_init_63 : decode cX6_init 63 = .ok (.aload_n 0, 1) := by decide +kernel
theorem dX6_init_64 : decode cX6_init 64 = .ok (.sipush 20000, 3) := by decide +kernel
theorem dX6_init_67 : decode cX6_init 67 = .ok (.newarray .long, 2) := by decide +kernel
theorem dX6_init_69 : decode cX6_init 69 = .ok (.putfield 41, 3) := by decide +kernel
theorem dX6_init_72 : decode cX6_init 72 = .ok (.aload_n 0, 1) := by decide +kernel
theorem dX6_init_73 : decode cX6_init 73 = .ok (.sipush 20000, 3) := by decide +kernel
theorem dX6_init_76 : decode cX6_init 76 = .ok (.newarray .int, 2) := by decide +kernel
theorem dX6_init_78 : decode cX6_init 78 = .ok (.putfield 45, 3) := by decide +kernel
theorem dX6_init_81 : decode cX6_init 81 = .ok (.aload_n 0, 1) := by decide +kernel
theorem dX6_init_82 : decode cX6_init 82 = .ok (.sipush 20000, 3) := by decide +kernel
theorem dX6_init_85 : decode cX6_init 85 = .ok (.newarray .int, 2) := by decide +kernel
theorem dX6_init_87 : decode cX6_init 87 = .ok (.putfield 48, 3) := by decide +kernel
theorem dX6_init_90 : decode cX6_init 90 = .ok (.aload_n 0, 1) := by decide +kernel
theorem dX6_init_91 : decode cX6_init 91 = .ok (.ldc 51, 2) := by decide +kernel
theorem dX6_init_93 : decode cX6_init 93 = .ok (.newarray .int, 2) := by decide +kernel
theorem dX6_init_95 : decode cX6_init 95 = .ok (.putfield 52, 3) := by decide +kernel
theorem dX6_init_98 : decode cX6_init 98 = .ok (.aload_n 0, 1) := by decide +kernel
theorem dX6_init_99 : decode cX6_init 99 = .ok (.sipush 20000, 3) := by decide +kernel
theorem dX6_init_102 : decode cX6_init 102 = .ok (.newarray .int, 2) := by decide +kernel
theorem dX6_init_104 : decode cX6_init 104 = .ok (.putfield 55, 3) := by decide +kernel
theorem dX6_init_107 : decode cX6_init 107 = .ok (.aload_n 0, 1) := by decide +kernel
theorem dX6_init_108 : decode cX6_init 108 = .ok (.iconst 4, 1) := by decide +kernel
theorem dX6_init_109 : decode cX6_init 109 = .ok (.newarray .boolean, 2) := by decide +kernel
theorem dX6_init_111 : decode cX6_init 111 = .ok (.putfield 58, 3) := by decide +kernel
theorem dX6_init_114 : decode cX6_init 114 = .ok (.iconst 0, 1) := by decide +kernel
theorem dX6_init_115 : decode cX6_init 115 = .ok (.istore_n 1, 1) := by decide +kernel
theorem dX6_init_116 : decode cX6_init 116 = .ok (.iload_n 1, 1) := by decide +kernel
theorem dX6_init_117 : decode cX6_init 117 = .ok (.aload_n 0, 1) := by decide +kernel
theorem dX6_init_118 : decode cX6_init 118 = .ok (.getfield 22, 3) := by decide +kernel
theorem dX6_init_121 : decode cX6_init 121 = .ok (.arraylength, 1) := by decide +kernel
theorem dX6_init_122 : decode cX6_init 122 = .ok (.if_icmp .ge 16, 3) := by decide +kernel
theorem dX6_init_125 : decode cX6_init 125 = .ok (.aload_n 0, 1) := by decide +kernel
theorem dX6_init_126 : decode cX6_init 126 = .ok (.getfield 22, 3) := by decide +kernel
theorem dX6_init_129 : decode cX6_init 129 = .ok (.iload_n 1, 1) := by decide +kernel
theorem dX6_init_130 : decode cX6_init 130 = .ok (.iconst (-1), 1) := by decide +kernel
theorem dX6_init_131 : decode cX6_init 131 = .ok (.iastore, 1) := by decide +kernel
theorem dX6_init_132 : decode cX6_init 132 = .ok (.iinc 1 1, 3) := by decide +kernel
theorem dX6_init_135 : decode cX6_init 135 = .ok (.goto (-19), 3) := by decide +kernel
theorem dX6_init_138 : decode cX6_init 138 = .ok (.iconst 0, 1) := by decide +kernel
theorem dX6_init_139 : decode cX6_init 139 = .ok (.istore_n 1, 1) := by decide +kernel
theorem dX6_init_140 : decode cX6_init 140 = .ok (.iload_n 1, 1) := by decide +kernel
theorem dX6_init_141 : decode cX6_init 141 = .ok (.iconst 3, 1) := by decide +kernel
theorem dX6_init_142 : decode cX6_init 142 = .ok (.if_icmp .ge 16, 3) := by decide +kernel
theorem dX6_init_145 : decode cX6_init 145 = .ok (.aload_n 0, 1) := by decide +kernel
theorem dX6_init_146 : decode cX6_init 146 = .ok (.getfield 26, 3) := by decide +kernel
theorem dX6_init_149 : decode cX6_init 149 = .ok (.iload_n 1, 1) := by decide +kernel
theorem dX6_init_150 : decode cX6_init 150 = .ok (.iconst (-1), 1) := by decide +kernel
theorem dX6_init_151 : decode cX6_init 151 = .ok (.iastore, 1) := by decide +kernel
theorem dX6_init_152 : decode cX6_init 152 = .ok (.iinc 1 1, 3) := by decide +kernel
theorem dX6_init_155 : decode cX6_init 155 = .ok (.goto (-15), 3) := by decide +kernel
theorem dX6_init_158 : decode cX6_init 158 = .ok (.aload_n 0, 1) := by decide +kernel
theorem dX6_init_159 : decode cX6_init 159 = .ok (.aload_n 0, 1) := by decide +kernel
theorem dX6_init_160 : decode cX6_init 160 = .ok (.invokevirtual 62, 3) := by decide +kernel
theorem dX6_init_163 : decode cX6_init 163 = .ok (.putfield 66, 3) := by decide +kernel
theorem dX6_init_166 : decode cX6_init 166 = .ok (.return_, 1) := by decide +kernel
set_option maxRecDepth 20000 in
theorem ggX6_first_X6_number : GoodIn wsX6_first wsX6_number := goodIn_r _ [15, 10, 16, 9, 17, 7, 18, 3, 19, 5, 6, 1, 20, 21, 22, 23, 24, 25, 26, 27, 28, 29, 30, 31, 32, 33, 34, 35, 36, 37, 38, 39, 40, 41, 42, 43, 44] (by decide +kernel) (by decide +kernel)
set_option maxRecDepth 20000 in
theorem gX6_first_X6_number : GoodIn wsX6_first (wsV RX6 83 RX6 yX6_number wsX6_number) := goodIn_app (goodIn_of _ (by decide +kernel)) ggX6_first_X6_number
theorem dX6_first_0 : decode cX6_first 0 = .ok (.iconst 0, 1) := by decide +kernel
theorem dX6_first_1 : decode cX6_first 1 = .ok (.istore_n 1, 1) := by decide +kernel
theorem dX6_first_2 : decode cX6_first 2 = .ok (.iload_n 1, 1) := by decide +kernel
theorem dX6_first_3 : decode cX6_first 3 = .ok (.aload_n 0, 1) := by decide +kernel
theorem dX6_first_4 : decode cX6_first 4 = .ok (.getfield 29, 3) := by decide +kernel
theorem dX6_first_7 : decode cX6_first 7 = .ok (.arraylength, 1) := by decide +kernel
theorem dX6_first_8 : decode cX6_first 8 = .ok (.if_icmp .ge 21, 3) := by decide +kernel
theorem dX6_first_11 : decode cX6_first 11 = .ok (.aload_n 0, 1) := by decide +kernel
theorem dX6_first_12 : decode cX6_first 12 = .ok (.getfield 29, 3) := by decide +kernel
theorem dX6_first_15 : decode cX6_first 15 = .ok (.iload_n 1, 1) := by decide +kernel
theorem dX6_first_16 : decode cX6_first 16 = .ok (.aload_n 0, 1) := by decide +kernel
theorem dX6_first_17 : decode cX6_first 17 = .ok (.getfield 22, 3) := by decide +kernel
theorem dX6_first_20 : decode cX6_first 20 = .ok (.iload_n 1, 1) := by decide +kernel
theorem dX6_first_21 : decode cX6_first 21 = .ok (.iaload, 1) := by decide +kernel
theorem dX6_first_22 : decode cX6_first 22 = .ok (.iastore, 1) := by decide +kernel
theorem dX6_first_23 : decode cX6_first 23 = .ok (.iinc 1 1, 3) := by decide +kernel
theorem dX6_first_26 : decode cX6_first 26 = .ok (.goto (-24), 3) := by decide +kernel
theorem dX6_first_29 : decode cX6_first 29 = .ok (.iconst 0, 1) := by decide +kernel
theorem dX6_first_30 : decode cX6_first 30 = .ok (.istore_n 1, 1) := by decide +kernel
theorem dX6_first_31 : decode cX6_first 31 = .ok (.iload_n 1, 1) := by decide +kernel
theorem dX6_first_32 : decode cX6_first 32 = .ok (.iconst 3, 1) := by decide +kernel
theorem dX6_first_33 : decode cX6_first 33 = .ok (.if_icmp .ge 21, 3) := by decide +kernel
theorem dX6_first_36 : decode cX6_first 36 = .ok (.aload_n 0, 1) := by decide +kernel
theorem dX6_first_37 : decode cX6_first 37 = .ok (.getfield 32, 3) := by decide +kernel
theorem dX6_first_40 : decode cX6_first 40 = .ok (.iload_n 1, 1) := by decide +kernel
theorem dX6_first_41 : decode cX6_first 41 = .ok (.aload_n 0, 1) := by decide +kernel
theorem dX6_first_42 : decode cX6_first 42 = .ok (.getfield 26, 3) := by decide +kernel
theorem dX6_first_45 : decode cX6_first 45 = .ok (.iload_n 1, 1) := by decide +kernel
theorem dX6_first_46 : decode cX6_first 46 = .ok (.iaload, 1) := by decide +kernel
theorem dX6_first_47 : decode cX6_first 47 = .ok (.iastore, 1) := by decide +kernel
theorem dX6_first_48 : decode cX6_first 48 = .ok (.iinc 1 1, 3) := by decide +kernel
theorem dX6_first_51 : decode cX6_first 51 = .ok (.goto (-20), 3) := by decide +kernel
theorem dX6_first_54 : decode cX6_first 54 = .ok (.iconst 0, 1) := by decide +kernel
theorem dX6_first_55 : decode cX6_first 55 = .ok (.istore_n 1, 1) := by decide +kernel
theorem dX6_first_56 : decode cX6_first 56 = .ok (.iload_n 1, 1) := by decide +kernel
theorem dX6_first_57 : decode cX6_first 57 = .ok (.iconst 4, 1) := by decide +kernel
theorem dX6_first_58 : decode cX6_first 58 = .ok (.if_icmp .ge 23, 3) := by decide +kernel
theorem dX6_first_61 : decode cX6_first 61 = .ok (.aload_n 0, 1) := by decide +kernel
theorem dX6_first_62 : decode cX6_first 62 = .ok (.getfield 35, 3) := by decide +kernel
theorem dX6_first_65 : decode cX6_first 65 = .ok (.iload_n 1, 1) := by decide +kernel
theorem dX6_first_66 : decode cX6_first 66 = .ok (.iconst 0, 1) := by decide +kernel
theorem dX6_first_67 : decode cX6_first 67 = .ok (.iastore, 1) := by decide +kernel
theorem dX6_first_68 : decode cX6_first 68 = .ok (.aload_n 0, 1) := by decide +kernel
theorem dX6_first_69 : decode cX6_first 69 = .ok (.getfield 38, 3) := by decide +kernel
theorem dX6_first_72 : decode cX6_first 72 = .ok (.iload_n 1, 1) := by decide +kernel
theorem dX6_first_73 : decode cX6_first 73 = .ok (.iconst 0, 1) := by decide +kernel
theorem dX6_first_74 : decode cX6_first 74 = .ok (.iastore, 1) := by decide +kernel
theorem dX6_first_75 : decode cX6_first 75 = .ok (.iinc 1 1, 3) := by decide +kernel
theorem dX6_first_78 : decode cX6_first 78 = .ok (.goto (-22), 3) := by decide +kernel
theorem dX6_first_81 : decode cX6_first 81 = .ok (.aload_n 0, 1) := by decide +kernel
theorem dX6_first_82 : decode cX6_first 82 = .ok (.iconst 0, 1) := by decide +kernel
theorem dX6_first_83 : decode cX6_first 83 = .ok (.putfield 70, 3) := by decide +kernel
theorem dX6_first_86 : decode cX6_first 86 = .ok (.aload_n 0, 1) := by decide +kernel
theorem dX6_first_87 : decode cX6_first 87 = .ok (.aload_n 0, 1) := by decide +kernel
theorem dX6_first_88 : decode cX6_first 88 = .ok (.getfield 73, 3) := by decide +kernel
theorem dX6_first_91 : decode cX6_first 91 = .ok (.putfield 76, 3) := by decide +kernel
theorem dX6_first_94 : decode cX6_first 94 = .ok (.aload_n 0, 1) := by decide +kernel
theorem dX6_first_95 : decode cX6_first 95 = .ok (.iconst 0, 1) := by decide +kernel
theorem dX6_first_96 : decode cX6_first 96 = .ok (.putfield 79, 3) := by decide +kernel
theorem dX6_first_99 : decode cX6_first 99 = .ok (.aload_n 0, 1) := by decide +kernel
theorem dX6_first_100 : decode cX6_first 100 = .ok (.invokevirtual 83, 3) := by decide +kernel
theorem dX6_first_103 : decode cX6_first 103 = .ok (.lreturn, 1) := by decide +kernel
theorem dX6_number_0 : decode cX6_number 0 = .ok (.aload_n 0, 1) := by decide +kernel
theorem dX6_number_1 : decode cX6_number 1 = .ok (.getfield 79, 3) := by decide +kernel
theorem dX6_number_4 : decode cX6_number 4 = .ok (.ifCond .eq 7, 3) := by decide +kernel
theorem dX6_number_7 : decode cX6_number 7 = .ok (.lconst 1, 1) := by decide +kernel
theorem dX6_number_8 : decode cX6_number 8 = .ok (.goto 4, 3) := by decide +kernel
theorem dX6_number_11 : decode cX6_number 11 = .ok (.lconst 0, 1) := by decide +kernel
theorem dX6_number_12 : decode cX6_number 12 = .ok (.lstore_n 1, 1) := by decide +kernel
theorem dX6_number_13 : decode cX6_number 13 = .ok (.ldc2_w 86, 3) := by decide +kernel
theorem dX6_number_16 : decode cX6_number 16 = .ok (.lload_n 1, 1) := by decide +kernel
theorem dX6_number_17 : decode cX6_number 17 = .ok (.lmul, 1) := by decide +kernel
theorem dX6_number_18 : decode cX6_number 18 = .ok (.aload_n 0, 1) := by decide +kernel
theorem dX6_number_19 : decode cX6_number 19 = .ok (.getfield 76, 3) := by decide +kernel
theorem dX6_number_22 : decode cX6_number 22 = .ok (.i2l, 1) := by decide +kernel
theorem dX6_number_23 : decode cX6_number 23 = .ok (.ladd, 1) := by decide +kernel
theorem dX6_number_24 : decode cX6_number 24 = .ok (.lstore_n 1, 1) := by decide +kernel
theorem dX6_number_25 : decode cX6_number 25 = .ok (.ldc2_w 88, 3) := by decide +kernel
theorem dX6_number_28 : decode cX6_number 28 = .ok (.lload_n 1, 1) := by decide +kernel
theorem dX6_number_29 : decode cX6_number 29 = .ok (.lmul, 1) := by decide +kernel
theorem dX6_number_30 : decode cX6_number 30 = .ok (.aload_n 0, 1) := by decide +kernel
theorem dX6_number_31 : decode cX6_number 31 = .ok (.getfield 70, 3) := by decide +kernel
theorem dX6_number_34 : decode cX6_number 34 = .ok (.i2l, 1) := by decide +kernel
theorem dX6_number_35 : decode cX6_number 35 = .ok (.ladd, 1) := by decide +kernel
theorem dX6_number_36 : decode cX6_number 36 = .ok (.lstore_n 1, 1) := by decide +kernel
theorem dX6_number_37 : decode cX6_number 37 = .ok (.iconst 0, 1) := by decide +kernel
theorem dX6_number_38 : decode cX6_number 38 = .ok (.istore_n 3, 1) := by decide +kernel
theorem dX6_number_39 : decode cX6_number 39 = .ok (.iload_n 3, 1) := by decide +kernel
theorem dX6_number_40 : decode cX6_number 40 = .ok (.iconst 3, 1) := by decide +kernel
theorem dX6_number_41 : decode cX6_number 41 = .ok (.if_icmp .ge 25, 3) := by decide +kernel
theorem dX6_number_44 : decode cX6_number 44 = .ok (.ldc2_w 90, 3) := by decide +kernel
theorem dX6_number_47 : decode cX6_number 47 = .ok (.lload_n 1, 1) := by decide +kernel
theorem dX6_number_48 : decode cX6_number 48 = .ok (.lmul, 1) := by decide +kernel
theorem dX6_number_49 : decode cX6_number 49 = .ok (.aload_n 0, 1) := by decide +kernel
theorem dX6_number_50 : decode cX6_number 50 = .ok (.getfield 32, 3) := by decide +kernel
theorem dX6_number_53 : decode cX6_number 53 = .ok (.iload_n 3, 1) := by decide +kernel
theorem dX6_number_54 : decode cX6_number 54 = .ok (.iaload, 1) := by decide +kernel
theorem dX6_number_55 : decode cX6_number 55 = .ok (.i2l, 1) := by decide +kernel
theorem dX6_number_56 : decode cX6_number 56 = .ok (.ladd, 1) := by decide +kernel
theorem dX6_number_57 : decode cX6_number 57 = .ok (.lconst 1, 1) := by decide +kernel
theorem dX6_number_58 : decode cX6_number 58 = .ok (.ladd, 1) := by decide +kernel
theorem dX6_number_59 : decode cX6_number 59 = .ok (.lstore_n 1, 1) := by decide +kernel
theorem dX6_number_60 : decode cX6_number 60 = .ok (.iinc 3 1, 3) := by decide +kernel
theorem dX6_number_63 : decode cX6_number 63 = .ok (.goto (-24), 3) := by decide +kernel
theorem dX6_number_66 : decode cX6_number 66 = .ok (.iconst 0, 1) := by decide +kernel
theorem dX6_number_67 : decode cX6_number 67 = .ok (.istore_n 3, 1) := by decide +kernel
theorem dX6_number_68 : decode cX6_number 68 = .ok (.iload_n 3, 1) := by decide +kernel
theorem dX6_number_69 : decode cX6_number 69 = .ok (.iconst 4, 1) := by decide +kernel
theorem dX6_number_70 : decode cX6_number 70 = .ok (.if_icmp .ge 37, 3) := by decide +kernel
theorem dX6_number_73 : decode cX6_number 73 = .ok (.ldc2_w 92, 3) := by decide +kernel
theorem dX6_number_76 : decode cX6_number 76 = .ok (.lload_n 1, 1) := by decide +kernel
theorem dX6_number_77 : decode cX6_number 77 = .ok (.lmul, 1) := by decide +kernel
theorem dX6_number_78 : decode cX6_number 78 = .ok (.aload_n 0, 1) := by decide +kernel
theorem dX6_number_79 : decode cX6_number 79 = .ok (.getfield 35, 3) := by decide +kernel
theorem dX6_number_82 : decode cX6_number 82 = .ok (.iload_n 3, 1) := by decide +kernel
theorem dX6_number_83 : decode cX6_number 83 = .ok (.iaload, 1) := by decide +kernel
theorem dX6_number_84 : decode cX6_number 84 = .ok (.i2l, 1) := by decide +kernel
theorem dX6_number_85 : decode cX6_number 85 = .ok (.ladd, 1) := by decide +kernel
theorem dX6_number_86 : decode cX6_number 86 = .ok (.lstore_n 1, 1) := by decide +kernel
theorem dX6_number_87 : decode cX6_number 87 = .ok (.ldc2_w 92, 3) := by decide +kernel
theorem dX6_number_90 : decode cX6_number 90 = .ok (.lload_n 1, 1) := by decide +kernel
theorem dX6_number_91 : decode cX6_number 91 = .ok (.lmul, 1) := by decide +kernel
theorem dX6_number_92 : decode cX6_number 92 = .ok (.aload_n 0, 1) := by decide +kernel
theorem dX6_number_93 : decode cX6_number 93 = .ok (.getfield 38, 3) := by decide +kernel
theorem dX6_number_96 : decode cX6_number 96 = .ok (.iload_n 3, 1) := by decide +kernel
theorem dX6_number_97 : decode cX6_number 97 = .ok (.iaload, 1) := by decide +kernel
theorem dX6_number_98 : decode cX6_number 98 = .ok (.i2l, 1) := by decide +kernel
theorem dX6_number_99 : decode cX6_number 99 = .ok (.ladd, 1) := by decide +kernel
theorem dX6_number_100 : decode cX6_number 100 = .ok (.lstore_n 1, 1) := by decide +kernel
theorem dX6_number_101 : decode cX6_number 101 = .ok (.iinc 3 1, 3) := by decide +kernel
theorem dX6_number_104 : decode cX6_number 104 = .ok (.goto (-36), 3) := by decide +kernel
theorem dX6_number_107 : decode cX6_number 107 = .ok (.iconst 0, 1) := by decide +kernel
theorem dX6_number_108 : decode cX6_number 108 = .ok (.istore_n 3, 1) := by decide +kernel
theorem dX6_number_109 : decode cX6_number 109 = .ok (.iload_n 3, 1) := by decide +kernel
theorem dX6_number_110 : decode cX6_number 110 = .ok (.aload_n 0, 1) := by decide +kernel
theorem dX6_number_111 : decode cX6_number 111 = .ok (.getfield 29, 3) := by decide +kernel
theorem dX6_number_114 : decode cX6_number 114 = .ok (.arraylength, 1) := by decide +kernel
theorem dX6_number_115 : decode cX6_number 115 = .ok (.if_icmp .ge 25, 3) := by decide +kernel
theorem dX6_number_118 : decode cX6_number 118 = .ok (.ldc2_w 90, 3) := by decide +kernel
theorem dX6_number_121 : decode cX6_number 121 = .ok (.lload_n 1, 1) := by decide +kernel
theorem dX6_number_122 : decode cX6_number 122 = .ok (.lmul, 1) := by decide +kernel
theorem dX6_number_123 : decode cX6_number 123 = .ok (.aload_n 0, 1) := by decide +kernel
theorem dX6_number_124 : decode cX6_number 124 = .ok (.getfield 29, 3) := by decide +kernel
theorem dX6_number_127 : decode cX6_number 127 = .ok (.iload_n 3, 1) := by decide +kernel
theorem dX6_number_128 : decode cX6_number 128 = .ok (.iaload, 1) := by decide +kernel
theorem dX6_number_129 : decode cX6_number 129 = .ok (.i2l, 1) := by decide +kernel
theorem dX6_number_130 : decode cX6_number 130 = .ok (.ladd, 1) := by decide +kernel
theorem dX6_number_131 : decode cX6_number 131 = .ok (.lconst 1, 1) := by decide +kernel
theorem dX6_number_132 : decode cX6_number 132 = .ok (.ladd, 1) := by decide +kernel
theorem dX6_number_133 : decode cX6_number 133 = .ok (.lstore_n 1, 1) := by decide +kernel
theorem dX6_number_134 : decode cX6_number 134 = .ok (.iinc 3 1, 3) := by decide +kernel
theorem dX6_number_137 : decode cX6_number 137 = .ok (.goto (-28), 3) := by decide +kernel
theorem dX6_number_140 : decode cX6_number 140 = .ok (.lload_n 1, 1) := by decide +kernel
theorem dX6_number_141 : decode cX6_number 141 = .ok (.lreturn, 1) := by decide +kernel
theorem dX6_take_0 : decode cX6_take 0 = .ok (.lload_n 1, 1) := by decide +kernel
theorem dX6_take_1 : decode cX6_take 1 = .ok (.lstore_n 3, 1) := by decide +kernel
theorem dX6_take_2 : decode cX6_take 2 = .ok (.aload_n 0, 1) := by decide +kernel
theorem dX6_take_3 : decode cX6_take 3 = .ok (.getfield 29, 3) := by decide +kernel
theorem dX6_take_6 : decode cX6_take 6 = .ok (.arraylength, 1) := by decide +kernel
theorem dX6_take_7 : decode cX6_take 7 = .ok (.iconst 1, 1) := by decide +kernel
theorem dX6_take_8 : decode cX6_take 8 = .ok (.isub, 1) := by decide +kernel
theorem dX6_take_9 : decode cX6_take 9 = .ok (.istore 5, 2) := by decide +kernel
theorem dX6_take_11 : decode cX6_take 11 = .ok (.iload 5, 2) := by decide +kernel
theorem dX6_take_13 : decode cX6_take 13 = .ok (.ifCond .lt 30, 3) := by decide +kernel
theorem dX6_take_16 : decode cX6_take 16 = .ok (.aload_n 0, 1) := by decide +kernel
theorem dX6_take_17 : decode cX6_take 17 = .ok (.getfield 29, 3) := by decide +kernel
theorem dX6_take_20 : decode cX6_take 20 = .ok (.iload 5, 2) := by decide +kernel
theorem dX6_take_22 : decode cX6_take 22 = .ok (.lload_n 3, 1) := by decide +kernel
theorem dX6_take_23 : decode cX6_take 23 = .ok (.ldc2_w 90, 3) := by decide +kernel
theorem dX6_take_26 : decode cX6_take 26 = .ok (.lrem, 1) := by decide +kernel
theorem dX6_take_27 : decode cX6_take 27 = .ok (.l2i, 1) := by decide +kernel
theorem dX6_take_28 : decode cX6_take 28 = .ok (.iconst 1, 1) := by decide +kernel
theorem dX6_take_29 : decode cX6_take 29 = .ok (.isub, 1) := by decide +kernel
theorem dX6_take_30 : decode cX6_take 30 = .ok (.iastore, 1) := by decide +kernel
theorem dX6_take_31 : decode cX6_take 31 = .ok (.lload_n 3, 1) := by decide +kernel
theorem dX6_take_32 : decode cX6_take 32 = .ok (.ldc2_w 90, 3) := by decide +kernel
theorem dX6_take_35 : decode cX6_take 35 = .ok (.ldiv, 1) := by decide +kernel
theorem dX6_take_36 : decode cX6_take 36 = .ok (.lstore_n 3, 1) := by decide +kernel
theorem dX6_take_37 : decode cX6_take 37 = .ok (.iinc 5 (-1), 3) := by decide +kernel
theorem dX6_take_40 : decode cX6_take 40 = .ok (.goto (-29), 3) := by decide +kernel
theorem dX6_take_43 : decode cX6_take 43 = .ok (.iconst 3, 1) := by decide +kernel
theorem dX6_take_44 : decode cX6_take 44 = .ok (.istore 5, 2) := by decide +kernel
theorem dX6_take_46 : decode cX6_take 46 = .ok (.iload 5, 2) := by decide +kernel
theorem dX6_take_48 : decode cX6_take 48 = .ok (.ifCond .lt 47, 3) := by decide +kernel
theorem dX6_take_51 : decode cX6_take 51 = .ok (.aload_n 0, 1) := by decide +kernel
theorem dX6_take_52 : decode cX6_take 52 = .ok (.getfield 38, 3) := by decide +kernel
theorem dX6_take_55 : decode cX6_take 55 = .ok (.iload 5, 2) := by decide +kernel
theorem dX6_take_57 : decode cX6_take 57 = .ok (.lload_n 3, 1) := by decide +kernel
theorem dX6_take_58 : decode cX6_take 58 = .ok (.ldc2_w 92, 3) := by decide +kernel
theorem dX6_take_61 : decode cX6_take 61 = .ok (.lrem, 1) := by decide +kernel
theorem dX6_take_62 : decode cX6_take 62 = .ok (.l2i, 1) := by decide +kernel
theorem dX6_take_63 : decode cX6_take 63 = .ok (.iastore, 1) := by decide +kernel
theorem dX6_take_64 : decode cX6_take 64 = .ok (.lload_n 3, 1) := by decide +kernel
theorem dX6_take_65 : decode cX6_take 65 = .ok (.ldc2_w 92, 3) := by decide +kernel
theorem dX6_take_68 : decode cX6_take 68 = .ok (.ldiv, 1) := by decide +kernel
theorem dX6_take_69 : decode cX6_take 69 = .ok (.lstore_n 3, 1) := by decide +kernel
theorem dX6_take_70 : decode cX6_take 70 = .ok (.aload_n 0, 1) := by decide +kernel
theorem dX6_take_71 : decode cX6_take 71 = .ok (.getfield 35, 3) := by decide +kernel
theorem dX6_take_74 : decode cX6_take 74 = .ok (.iload 5, 2) := by decide +kernel
theorem dX6_take_76 : decode cX6_take 76 = .ok (.lload_n 3, 1) := by decide +kernel
theorem dX6_take_77 : decode cX6_take 77 = .ok (.ldc2_w 92, 3) := by decide +kernel
theorem dX6_take_80 : decode cX6_take 80 = .ok (.lrem, 1) := by decide +kernel
theorem dX6_take_81 : decode cX6_take 81 = .ok (.l2i, 1) := by decide +kernel
theorem dX6_take_82 : decode cX6_take 82 = .ok (.iastore, 1) := by decide +kernel
theorem dX6_take_83 : decode cX6_take 83 = .ok (.lload_n 3, 1) := by decide +kernel
theorem dX6_take_84 : decode cX6_take 84 = .ok (.ldc2_w 92, 3) := by decide +kernel
theorem dX6_take_87 : decode cX6_take 87 = .ok (.ldiv, 1) := by decide +kernel
theorem dX6_take_88 : decode cX6_take 88 = .ok (.lstore_n 3, 1) := by decide +kernel
theorem dX6_take_89 : decode cX6_take 89 = .ok (.iinc 5 (-1), 3) := by decide +kernel
theorem dX6_take_92 : decode cX6_take 92 = .ok (.goto (-46), 3) := by decide +kernel
theorem dX6_take_95 : decode cX6_take 95 = .ok (.iconst 2, 1) := by decide +kernel
theorem dX6_take_96 : decode cX6_take 96 = .ok (.istore 5, 2) := by decide +kernel
theorem dX6_take_98 : decode cX6_take 98 = .ok (.iload 5, 2) := by decide +kernel
theorem dX6_take_100 : decode cX6_take 100 = .ok (.ifCond .lt 30, 3) := by decide +kernel
theorem dX6_take_103 : decode cX6_take 103 = .ok (.aload_n 0, 1) := by decide +kernel
theorem dX6_take_104 : decode cX6_take 104 = .ok (.getfield 32, 3) := by decide +kernel
theorem dX6_take_107 : decode cX6_take 107 = .ok (.iload 5, 2) := by decide +kernel
theorem dX6_take_109 : decode cX6_take 109 = .ok (.lload_n 3, 1) := by decide +kernel
theorem dX6_take_110 : decode cX6_take 110 = .ok (.ldc2_w 90, 3) := by decide +kernel
theorem dX6_take_113 : decode cX6_take 113 = .ok (.lrem, 1) := by decide +kernel
theorem dX6_take_114 : decode cX6_take 114 = .ok (.l2i, 1) := by decide +kernel
theorem dX6_take_115 : decode cX6_take 115 = .ok (.iconst 1, 1) := by decide +kernel
theorem dX6_take_116 : decode cX6_take 116 = .ok (.isub, 1) := by decide +kernel
theorem dX6_take_117 : decode cX6_take 117 = .ok (.iastore, 1) := by decide +kernel
theorem dX6_take_118 : decode cX6_take 118 = .ok (.lload_n 3, 1) := by decide +kernel
theorem dX6_take_119 : decode cX6_take 119 = .ok (.ldc2_w 90, 3) := by decide +kernel
theorem dX6_take_122 : decode cX6_take 122 = .ok (.ldiv, 1) := by decide +kernel
theorem dX6_take_123 : decode cX6_take 123 = .ok (.lstore_n 3, 1) := by decide +kernel
theorem dX6_take_124 : decode cX6_take 124 = .ok (.iinc 5 (-1), 3) := by decide +kernel
theorem dX6_take_127 : decode cX6_take 127 = .ok (.goto (-29), 3) := by decide +kernel
theorem dX6_take_130 : decode cX6_take 130 = .ok (.aload_n 0, 1) := by decide +kernel
theorem dX6_take_131 : decode cX6_take 131 = .ok (.lload_n 3, 1) := by decide +kernel
theorem dX6_take_132 : decode cX6_take 132 = .ok (.ldc2_w 88, 3) := by decide +kernel
theorem dX6_take_135 : decode cX6_take 135 = .ok (.lrem, 1) := by decide +kernel
theorem dX6_take_136 : decode cX6_take 136 = .ok (.l2i, 1) := by decide +kernel
theorem dX6_take_137 : decode cX6_take 137 = .ok (.putfield 70, 3) := by decide +kernel
theorem dX6_take_140 : decode cX6_take 140 = .ok (.lload_n 3, 1) := by decide +kernel
theorem dX6_take_141 : decode cX6_take 141 = .ok (.ldc2_w 88, 3) := by decide +kernel
theorem dX6_take_144 : decode cX6_take 144 = .ok (.ldiv, 1) := by decide +kernel
theorem dX6_take_145 : decode cX6_take 145 = .ok (.lstore_n 3, 1) := by decide +kernel
theorem dX6_take_146 : decode cX6_take 146 = .ok (.aload_n 0, 1) := by decide +kernel
theorem dX6_take_147 : decode cX6_take 147 = .ok (.lload_n 3, 1) := by decide +kernel
theorem dX6_take_148 : decode cX6_take 148 = .ok (.ldc2_w 86, 3) := by decide +kernel
theorem dX6_take_151 : decode cX6_take 151 = .ok (.lrem, 1) := by decide +kernel
theorem dX6_take_152 : decode cX6_take 152 = .ok (.l2i, 1) := by decide +kernel
theorem dX6_take_153 : decode cX6_take 153 = .ok (.putfield 76, 3) := by decide +kernel
theorem dX6_take_156 : decode cX6_take 156 = .ok (.aload_n 0, 1) := by decide +kernel
theorem dX6_take_157 : decode cX6_take 157 = .ok (.lload_n 3, 1) := by decide +kernel
theorem dX6_take_158 : decode cX6_take 158 = .ok (.ldc2_w 86, 3) := by decide +kernel
theorem dX6_take_161 : decode cX6_take 161 = .ok (.ldiv, 1) := by decide +kernel
theorem dX6_take_162 : decode cX6_take 162 = .ok (.lconst 1, 1) := by decide +kernel
theorem dX6_take_163 : decode cX6_take 163 = .ok (.lcmp, 1) := by decide +kernel
theorem dX6_take_164 : decode cX6_take 164 = .ok (.ifCond .ne 7, 3) := by decide +kernel
theorem dX6_take_167 : decode cX6_take 167 = .ok (.iconst 1, 1) := by decide +kernel
theorem dX6_take_168 : decode cX6_take 168 = .ok (.goto 4, 3) := by decide +kernel
theorem dX6_take_171 : decode cX6_take 171 = .ok (.iconst 0, 1) := by decide +kernel
theorem dX6_take_172 : decode cX6_take 172 = .ok (.putfield 79, 3) := by decide +kernel
theorem dX6_take_175 : decode cX6_take 175 = .ok (.return_, 1) := by decide +kernel
theorem dX6_toGrey_0 : decode cX6_toGrey 0 = .ok (.iload_n 1, 1) := by decide +kernel
theorem dX6_toGrey_1 : decode cX6_toGrey 1 = .ok (.ifCond .lt 12, 3) := by decide +kernel
theorem dX6_toGrey_4 : decode cX6_toGrey 4 = .ok (.aload_n 0, 1) := by decide +kernel
theorem dX6_toGrey_5 : decode cX6_toGrey 5 = .ok (.getfield 35, 3) := by decide +kernel
theorem dX6_toGrey_8 : decode cX6_toGrey 8 = .ok (.iload_n 1, 1) := by decide +kernel
theorem dX6_toGrey_9 : decode cX6_toGrey 9 = .ok (.iaload, 1) := by decide +kernel
theorem dX6_toGrey_10 : decode cX6_toGrey 10 = .ok (.ifCond .eq 4, 3) := by decide +kernel
theorem dX6_toGrey_13 : decode cX6_toGrey 13 = .ok (.return_, 1) := by decide +kernel
theorem dX6_toGrey_14 : decode cX6_toGrey 14 = .ok (.aload_n 0, 1) := by decide +kernel
theorem dX6_toGrey_15 : decode cX6_toGrey 15 = .ok (.getfield 35, 3) := by decide +kernel
theorem dX6_toGrey_18 : decode cX6_toGrey 18 = .ok (.iload_n 1, 1) := by decide +kernel
theorem dX6_toGrey_19 : decode cX6_toGrey 19 = .ok (.iconst 1, 1) := by decide +kernel
theorem dX6_toGrey_20 : decode cX6_toGrey 20 = .ok (.iastore, 1) := by decide +kernel
theorem dX6_toGrey_21 : decode cX6_toGrey 21 = .ok (.aload_n 0, 1) := by decide +kernel
theorem dX6_toGrey_22 : decode cX6_toGrey 22 = .ok (.getfield 38, 3) := by decide +kernel
theorem dX6_toGrey_25 : decode cX6_toGrey 25 = .ok (.iload_n 1, 1) := by decide +kernel
theorem dX6_toGrey_26 : decode cX6_toGrey 26 = .ok (.iconst 0, 1) := by decide +kernel
theorem dX6_toGrey_27 : decode cX6_toGrey 27 = .ok (.iastore, 1) := by decide +kernel
theorem dX6_toGrey_28 : decode cX6_toGrey 28 = .ok (.return_, 1) := by decide +kernel
theorem dX6_leastGrey_0 : decode cX6_leastGrey 0 = .ok (.iconst 0, 1) := by decide +kernel
theorem dX6_leastGrey_1 : decode cX6_leastGrey 1 = .ok (.istore_n 1, 1) := by decide +kernel
theorem dX6_leastGrey_2 : decode cX6_leastGrey 2 = .ok (.iload_n 1, 1) := by decide +kernel
theorem dX6_leastGrey_3 : decode cX6_leastGrey 3 = .ok (.aload_n 0, 1) := by decide +kernel
theorem dX6_leastGrey_4 : decode cX6_leastGrey 4 = .ok (.getfield 13, 3) := by decide +kernel
theorem dX6_leastGrey_7 : decode cX6_leastGrey 7 = .ok (.if_icmp .ge 21, 3) := by decide +kernel
theorem dX6_leastGrey_10 : decode cX6_leastGrey 10 = .ok (.aload_n 0, 1) := by decide +kernel
theorem dX6_leastGrey_11 : decode cX6_leastGrey 11 = .ok (.getfield 35, 3) := by decide +kernel
theorem dX6_leastGrey_14 : decode cX6_leastGrey 14 = .ok (.iload_n 1, 1) := by decide +kernel
theorem dX6_leastGrey_15 : decode cX6_leastGrey 15 = .ok (.iaload, 1) := by decide +kernel
theorem dX6_leastGrey_16 : decode cX6_leastGrey 16 = .ok (.iconst 1, 1) := by decide +kernel
theorem dX6_leastGrey_17 : decode cX6_leastGrey 17 = .ok (.if_icmp .ne 5, 3) := by decide +kernel
theorem dX6_leastGrey_20 : decode cX6_leastGrey 20 = .ok (.iload_n 1, 1) := by decide +kernel
theorem dX6_leastGrey_21 : decode cX6_leastGrey 21 = .ok (.ireturn, 1) := by decide +kernel
theorem dX6_leastGrey_22 : decode cX6_leastGrey 22 = .ok (.iinc 1 1, 3) := by decide +kernel
theorem dX6_leastGrey_25 : decode cX6_leastGrey 25 = .ok (.goto (-23), 3) := by decide +kernel
theorem dX6_leastGrey_28 : decode cX6_leastGrey 28 = .ok (.iconst (-1), 1) := by decide +kernel
theorem dX6_leastGrey_29 : decode cX6_leastGrey 29 = .ok (.ireturn, 1) := by decide +kernel
theorem dX6_bars_0 : decode cX6_bars 0 = .ok (.aload_n 0, 1) := by decide +kernel
theorem dX6_bars_1 : decode cX6_bars 1 = .ok (.getfield 94, 3) := by decide +kernel
theorem dX6_bars_4 : decode cX6_bars 4 = .ok (.iload_n 1, 1) := by decide +kernel
theorem dX6_bars_5 : decode cX6_bars 5 = .ok (.iand, 1) := by decide +kernel
theorem dX6_bars_6 : decode cX6_bars 6 = .ok (.ifCond .eq 7, 3) := by decide +kernel
theorem dX6_bars_9 : decode cX6_bars 9 = .ok (.iconst 1, 1) := by decide +kernel
theorem dX6_bars_10 : decode cX6_bars 10 = .ok (.goto 4, 3) := by decide +kernel
theorem dX6_bars_13 : decode cX6_bars 13 = .ok (.iconst 0, 1) := by decide +kernel
theorem dX6_bars_14 : decode cX6_bars 14 = .ok (.ireturn, 1) := by decide +kernel
theorem dX6_isRoot_0 : decode cX6_isRoot 0 = .ok (.iload_n 1, 1) := by decide +kernel
theorem dX6_isRoot_1 : decode cX6_isRoot 1 = .ok (.aload_n 0, 1) := by decide +kernel
theorem dX6_isRoot_2 : decode cX6_isRoot 2 = .ok (.getfield 19, 3) := by decide +kernel
theorem dX6_isRoot_5 : decode cX6_isRoot 5 = .ok (.if_icmp .ge 7, 3) := by decide +kernel
theorem dX6_isRoot_8 : decode cX6_isRoot 8 = .ok (.iconst 1, 1) := by decide +kernel
theorem dX6_isRoot_9 : decode cX6_isRoot 9 = .ok (.goto 4, 3) := by decide +kernel
theorem dX6_isRoot_12 : decode cX6_isRoot 12 = .ok (.iconst 0, 1) := by decide +kernel
theorem dX6_isRoot_13 : decode cX6_isRoot 13 = .ok (.ireturn, 1) := by decide +kernel
set_option maxRecDepth 20000 in
theorem ggX6_canDo_X6_leastGrey : GoodIn wsX6_canDo wsX6_leastGrey := goodIn_r _ [11, 12, 13, 18, 19, 20, 21, 22, 23, 24, 25, 26, 27, 28, 29, 30, 31, 32, 33, 34, 35, 36, 37, 38, 39, 40, 41, 42] (by decide +kernel) (by decide +kernel)
set_option maxRecDepth 20000 in
theorem gX6_canDo_X6_leastGrey : GoodIn wsX6_canDo (wsV RX6 97 RX6 yX6_leastGrey wsX6_leastGrey) := goodIn_app (goodIn_of _ (by decide +kernel)) ggX6_canDo_X6_leastGrey
set_option maxRecDepth 20000 in
theorem ggX6_canDo_X6_isRoot : GoodIn wsX6_canDo wsX6_isRoot := goodIn_r _ [17, 3, 18, 19, 20, 21, 22, 23, 24, 25, 26, 27, 28, 29, 30, 31, 32, 33, 34, 35, 36, 37, 38, 39, 40, 41, 42] (by decide +kernel) (by decide +kernel)
set_option maxRecDepth 20000 in
theorem gX6_canDo_X6_isRoot : GoodIn wsX6_canDo (wsV RX6 101 RX6 yX6_isRoot wsX6_isRoot) := goodIn_app (goodIn_of _ (by decide +kernel)) ggX6_canDo_X6_isRoot
theorem dX6_canDo_0 : decode cX6_canDo 0 = .ok (.aload_n 0, 1) := by decide +kernel
theorem dX6_canDo_1 : decode cX6_canDo 1 = .ok (.getfield 79, 3) := by decide +kernel
theorem dX6_canDo_4 : decode cX6_canDo 4 = .ok (.ifCond .eq 5, 3) := by decide +kernel
theorem dX6_canDo_7 : decode cX6_canDo 7 = .ok (.iconst 0, 1) := by decide +kernel
theorem dX6_canDo_8 : decode cX6_canDo 8 = .ok (.ireturn, 1) := by decide +kernel
theorem dX6_canDo_9 : decode cX6_canDo 9 = .ok (.iload_n 1, 1) := by decide +kernel
theorem dX6_canDo_10 : decode cX6_canDo 10 = .ok (.ifCond .ne 27, 3) := by decide +kernel
theorem dX6_canDo_13 : decode cX6_canDo 13 = .ok (.aload_n 0, 1) := by decide +kernel
theorem dX6_canDo_14 : decode cX6_canDo 14 = .ok (.getfield 70, 3) := by decide +kernel
theorem dX6_canDo_17 : decode cX6_canDo 17 = .ok (.aload_n 0, 1) := by decide +kernel
theorem dX6_canDo_18 : decode cX6_canDo 18 = .ok (.getfield 19, 3) := by decide +kernel
theorem dX6_canDo_21 : decode cX6_canDo 21 = .ok (.if_icmp .lt 10, 3) := by decide +kernel
theorem dX6_canDo_24 : decode cX6_canDo 24 = .ok (.aload_n 0, 1) := by decide +kernel
theorem dX6_canDo_25 : decode cX6_canDo 25 = .ok (.invokevirtual 97, 3) := by decide +kernel
theorem dX6_canDo_28 : decode cX6_canDo 28 = .ok (.ifCond .lt 7, 3) := by decide +kernel
theorem dX6_canDo_31 : decode cX6_canDo 31 = .ok (.iconst 1, 1) := by decide +kernel
theorem dX6_canDo_32 : decode cX6_canDo 32 = .ok (.goto 4, 3) := by decide +kernel
theorem dX6_canDo_35 : decode cX6_canDo 35 = .ok (.iconst 0, 1) := by decide +kernel
theorem dX6_canDo_36 : decode cX6_canDo 36 = .ok (.ireturn, 1) := by decide +kernel
theorem dX6_canDo_37 : decode cX6_canDo 37 = .ok (.iload_n 1, 1) := by decide +kernel
theorem dX6_canDo_38 : decode cX6_canDo 38 = .ok (.iconst 1, 1) := by decide +kernel
theorem dX6_canDo_39 : decode cX6_canDo 39 = .ok (.if_icmp .ne 27, 3) := by decide +kernel
theorem dX6_canDo_42 : decode cX6_canDo 42 = .ok (.aload_n 0, 1) := by decide +kernel
theorem dX6_canDo_43 : decode cX6_canDo 43 = .ok (.getfield 70, 3) := by decide +kernel
theorem dX6_canDo_46 : decode cX6_canDo 46 = .ok (.aload_n 0, 1) := by decide +kernel
theorem dX6_canDo_47 : decode cX6_canDo 47 = .ok (.getfield 19, 3) := by decide +kernel
theorem dX6_canDo_50 : decode cX6_canDo 50 = .ok (.if_icmp .ne 14, 3) := by decide +kernel
theorem dX6_canDo_53 : decode cX6_canDo 53 = .ok (.aload_n 0, 1) := by decide +kernel
theorem dX6_canDo_54 : decode cX6_canDo 54 = .ok (.invokevirtual 97, 3) := by decide +kernel
theorem dX6_canDo_57 : decode cX6_canDo 57 = .ok (.ifCond .ge 7, 3) := by decide +kernel
theorem dX6_canDo_60 : decode cX6_canDo 60 = .ok (.iconst 1, 1) := by decide +kernel
theorem dX6_canDo_61 : decode cX6_canDo 61 = .ok (.goto 4, 3) := by decide +kernel
theorem dX6_canDo_64 : decode cX6_canDo 64 = .ok (.iconst 0, 1) := by decide +kernel
theorem dX6_canDo_65 : decode cX6_canDo 65 = .ok (.ireturn, 1) := by decide +kernel
theorem dX6_canDo_66 : decode cX6_canDo 66 = .ok (.aload_n 0, 1) := by decide +kernel
theorem dX6_canDo_67 : decode cX6_canDo 67 = .ok (.getfield 76, 3) := by decide +kernel
theorem dX6_canDo_70 : decode cX6_canDo 70 = .ok (.ifCond .ne 5, 3) := by decide +kernel
theorem dX6_canDo_73 : decode cX6_canDo 73 = .ok (.iconst 0, 1) := by decide +kernel
theorem dX6_canDo_74 : decode cX6_canDo 74 = .ok (.ireturn, 1) := by decide +kernel
theorem dX6_canDo_75 : decode cX6_canDo 75 = .ok (.iload_n 1, 1) := by decide +kernel
theorem dX6_canDo_76 : decode cX6_canDo 76 = .ok (.bipush 11, 2) := by decide +kernel
theorem dX6_canDo_78 : decode cX6_canDo 78 = .ok (.if_icmp .ge 46, 3) := by decide +kernel
theorem dX6_canDo_81 : decode cX6_canDo 81 = .ok (.aload_n 0, 1) := by decide +kernel
theorem dX6_canDo_82 : decode cX6_canDo 82 = .ok (.iload_n 1, 1) := by decide +kernel
theorem dX6_canDo_83 : decode cX6_canDo 83 = .ok (.iconst 2, 1) := by decide +kernel
theorem dX6_canDo_84 : decode cX6_canDo 84 = .ok (.isub, 1) := by decide +kernel
theorem dX6_canDo_85 : decode cX6_canDo 85 = .ok (.iconst 3, 1) := by decide +kernel
theorem dX6_canDo_86 : decode cX6_canDo 86 = .ok (.idiv, 1) := by decide +kernel
theorem dX6_canDo_87 : decode cX6_canDo 87 = .ok (.invokevirtual 101, 3) := by decide +kernel
theorem dX6_canDo_90 : decode cX6_canDo 90 = .ok (.ifCond .eq 32, 3) := by decide +kernel
theorem dX6_canDo_93 : decode cX6_canDo 93 = .ok (.aload_n 0, 1) := by decide +kernel
theorem dX6_canDo_94 : decode cX6_canDo 94 = .ok (.iload_n 1, 1) := by decide +kernel
theorem dX6_canDo_95 : decode cX6_canDo 95 = .ok (.iconst 2, 1) := by decide +kernel
theorem dX6_canDo_96 : decode cX6_canDo 96 = .ok (.isub, 1) := by decide +kernel
theorem dX6_canDo_97 : decode cX6_canDo 97 = .ok (.iconst 3, 1) := by decide +kernel
theorem dX6_canDo_98 : decode cX6_canDo 98 = .ok (.irem, 1) := by decide +kernel
theorem dX6_canDo_99 : decode cX6_canDo 99 = .ok (.invokevirtual 101, 3) := by decide +kernel
theorem dX6_canDo_102 : decode cX6_canDo 102 = .ok (.ifCond .eq 20, 3) := by decide +kernel
theorem dX6_canDo_105 : decode cX6_canDo 105 = .ok (.iload_n 1, 1) := by decide +kernel
theorem dX6_canDo_106 : decode cX6_canDo 106 = .ok (.iconst 2, 1) := by decide +kernel
theorem dX6_canDo_107 : decode cX6_canDo 107 = .ok (.isub, 1) := by decide +kernel
theorem dX6_canDo_108 : decode cX6_canDo 108 = .ok (.iconst 3, 1) := by decide +kernel
theorem dX6_canDo_109 : decode cX6_canDo 109 = .ok (.idiv, 1) := by decide +kernel
theorem dX6_canDo_110 : decode cX6_canDo 110 = .ok (.iload_n 1, 1) := by decide +kernel
theorem dX6_canDo_111 : decode cX6_canDo 111 = .ok (.iconst 2, 1) := by decide +kernel
theorem dX6_canDo_112 : decode cX6_canDo 112 = .ok (.isub, 1) := by decide +kernel
theorem dX6_canDo_113 : decode cX6_canDo 113 = .ok (.iconst 3, 1) := by decide +kernel
theorem dX6_canDo_114 : decode cX6_canDo 114 = .ok (.irem, 1) := by decide +kernel
theorem dX6_canDo_115 : decode cX6_canDo 115 = .ok (.if_icmp .eq 7, 3) := by decide +kernel
theorem dX6_canDo_118 : decode cX6_canDo 118 = .ok (.iconst 1, 1) := by decide +kernel
theorem dX6_canDo_119 : decode cX6_canDo 119 = .ok (.goto 4, 3) := by decide +kernel
theorem dX6_canDo_122 : decode cX6_canDo 122 = .ok (.iconst 0, 1) := by decide +kernel
theorem dX6_canDo_123 : decode cX6_canDo 123 = .ok (.ireturn, 1) := by decide +kernel
theorem dX6_canDo_124 : decode cX6_canDo 124 = .ok (.iload_n 1, 1) := by decide +kernel
theorem dX6_canDo_125 : decode cX6_canDo 125 = .ok (.bipush 47, 2) := by decide +kernel
theorem dX6_canDo_127 : decode cX6_canDo 127 = .ok (.if_icmp .lt 12, 3) := by decide +kernel
theorem dX6_canDo_130 : decode cX6_canDo 130 = .ok (.aload_n 0, 1) := by decide +kernel
theorem dX6_canDo_131 : decode cX6_canDo 131 = .ok (.iload_n 1, 1) := by decide +kernel
theorem dX6_canDo_132 : decode cX6_canDo 132 = .ok (.bipush 47, 2) := by decide +kernel
theorem dX6_canDo_134 : decode cX6_canDo 134 = .ok (.isub, 1) := by decide +kernel
theorem dX6_canDo_135 : decode cX6_canDo 135 = .ok (.invokevirtual 101, 3) := by decide +kernel
theorem dX6_canDo_138 : decode cX6_canDo 138 = .ok (.ireturn, 1) := by decide +kernel
theorem dX6_canDo_139 : decode cX6_canDo 139 = .ok (.iload_n 1, 1) := by decide +kernel
theorem dX6_canDo_140 : decode cX6_canDo 140 = .ok (.bipush 29, 2) := by decide +kernel
theorem dX6_canDo_142 : decode cX6_canDo 142 = .ok (.if_icmp .ge 10, 3) := by decide +kernel
theorem dX6_canDo_145 : decode cX6_canDo 145 = .ok (.iload_n 1, 1) := by decide +kernel
theorem dX6_canDo_146 : decode cX6_canDo 146 = .ok (.bipush 11, 2) := by decide +kernel
theorem dX6_canDo_148 : decode cX6_canDo 148 = .ok (.isub, 1) := by decide +kernel
theorem dX6_canDo_149 : decode cX6_canDo 149 = .ok (.goto 7, 3) := by decide +kernel
theorem dX6_canDo_152 : decode cX6_canDo 152 = .ok (.iload_n 1, 1) := by decide +kernel
theorem dX6_canDo_153 : decode cX6_canDo 153 = .ok (.bipush 29, 2) := by decide +kernel
theorem dX6_canDo_155 : decode cX6_canDo 155 = .ok (.isub, 1) := by decide +kernel
theorem dX6_canDo_156 : decode cX6_canDo 156 = .ok (.istore_n 2, 1) := by decide +kernel
theorem dX6_canDo_157 : decode cX6_canDo 157 = .ok (.iload_n 2, 1) := by decide +kernel
theorem dX6_canDo_158 : decode cX6_canDo 158 = .ok (.bipush 6, 2) := by decide +kernel
theorem dX6_canDo_160 : decode cX6_canDo 160 = .ok (.idiv, 1) := by decide +kernel
theorem dX6_canDo_161 : decode cX6_canDo 161 = .ok (.istore_n 3, 1) := by decide +kernel
theorem dX6_canDo_162 : decode cX6_canDo 162 = .ok (.iload_n 2, 1) := by decide +kernel
theorem dX6_canDo_163 : decode cX6_canDo 163 = .ok (.bipush 6, 2) := by decide +kernel
theorem dX6_canDo_165 : decode cX6_canDo 165 = .ok (.irem, 1) := by decide +kernel
theorem dX6_canDo_166 : decode cX6_canDo 166 = .ok (.iconst 2, 1) := by decide +kernel
theorem dX6_canDo_167 : decode cX6_canDo 167 = .ok (.idiv, 1) := by decide +kernel
theorem dX6_canDo_168 : decode cX6_canDo 168 = .ok (.istore 4, 2) := by decide +kernel
theorem dX6_canDo_170 : decode cX6_canDo 170 = .ok (.aload_n 0, 1) := by decide +kernel
theorem dX6_canDo_171 : decode cX6_canDo 171 = .ok (.iload_n 3, 1) := by decide +kernel
theorem dX6_canDo_172 : decode cX6_canDo 172 = .ok (.invokevirtual 101, 3) := by decide +kernel
theorem dX6_canDo_175 : decode cX6_canDo 175 = .ok (.ifCond .eq 22, 3) := by decide +kernel
theorem dX6_canDo_178 : decode cX6_canDo 178 = .ok (.aload_n 0, 1) := by decide +kernel
theorem dX6_canDo_179 : decode cX6_canDo 179 = .ok (.iload 4, 2) := by decide +kernel
theorem dX6_canDo_181 : decode cX6_canDo 181 = .ok (.invokevirtual 101, 3) := by decide +kernel
theorem dX6_canDo_184 : decode cX6_canDo 184 = .ok (.ifCond .eq 13, 3) := by decide +kernel
theorem dX6_canDo_187 : decode cX6_canDo 187 = .ok (.iload_n 2, 1) := by decide +kernel
theorem dX6_canDo_188 : decode cX6_canDo 188 = .ok (.iconst 2, 1) := by decide +kernel
theorem dX6_canDo_189 : decode cX6_canDo 189 = .ok (.irem, 1) := by decide +kernel
theorem dX6_canDo_190 : decode cX6_canDo 190 = .ok (.aload_n 0, 1) := by decide +kernel
theorem dX6_canDo_191 : decode cX6_canDo 191 = .ok (.getfield 16, 3) := by decide +kernel
theorem dX6_canDo_194 : decode cX6_canDo 194 = .ok (.if_icmp .lt 5, 3) := by decide +kernel
theorem dX6_canDo_197 : decode cX6_canDo 197 = .ok (.iconst 0, 1) := by decide +kernel
theorem dX6_canDo_198 : decode cX6_canDo 198 = .ok (.ireturn, 1) := by decide +kernel
theorem dX6_canDo_199 : decode cX6_canDo 199 = .ok (.aload_n 0, 1) := by decide +kernel
theorem dX6_canDo_200 : decode cX6_canDo 200 = .ok (.getfield 32, 3) := by decide +kernel
theorem dX6_canDo_203 : decode cX6_canDo 203 = .ok (.iload_n 1, 1) := by decide +kernel
theorem dX6_canDo_204 : decode cX6_canDo 204 = .ok (.bipush 29, 2) := by decide +kernel
theorem dX6_canDo_206 : decode cX6_canDo 206 = .ok (.if_icmp .ge 8, 3) := by decide +kernel
theorem dX6_canDo_209 : decode cX6_canDo 209 = .ok (.iload 4, 2) := by decide +kernel
theorem dX6_canDo_211 : decode cX6_canDo 211 = .ok (.goto 4, 3) := by decide +kernel
theorem dX6_canDo_214 : decode cX6_canDo 214 = .ok (.iload_n 3, 1) := by decide +kernel
theorem dX6_canDo_215 : decode cX6_canDo 215 = .ok (.iaload, 1) := by decide +kernel
theorem dX6_canDo_216 : decode cX6_canDo 216 = .ok (.ifCond .lt 7, 3) := by decide +kernel
theorem dX6_canDo_219 : decode cX6_canDo 219 = .ok (.iconst 1, 1) := by decide +kernel
theorem dX6_canDo_220 : decode cX6_canDo 220 = .ok (.goto 4, 3) := by decide +kernel
theorem dX6_canDo_223 : decode cX6_canDo 223 = .ok (.iconst 0, 1) := by decide +kernel
theorem dX6_canDo_224 : decode cX6_canDo 224 = .ok (.ireturn, 1) := by decide +kernel
set_option maxRecDepth 20000 in
theorem ggX6_look_X6_toGrey : GoodIn wsX6_look wsX6_toGrey := goodIn_r _ [12, 7, 5, 18, 19, 20, 21, 22, 23, 24, 25, 26, 27, 28, 29, 30, 31, 32, 33, 34, 35, 36, 37, 38, 39, 40, 41, 42] (by decide +kernel) (by decide +kernel)
set_option maxRecDepth 20000 in
theorem gX6_look_X6_toGrey : GoodIn wsX6_look (wsV RX6 105 RX6 yX6_toGrey wsX6_toGrey) := goodIn_app (goodIn_of _ (by decide +kernel)) ggX6_look_X6_toGrey
set_option maxRecDepth 20000 in
theorem ggX6_look_X6_leastGrey : GoodIn wsX6_look wsX6_leastGrey := goodIn_r _ [16, 17, 7, 18, 19, 20, 21, 22, 23, 24, 25, 26, 27, 28, 29, 30, 31, 32, 33, 34, 35, 36, 37, 38, 39, 40, 41, 42] (by decide +kernel) (by decide +kernel)
set_option maxRecDepth 20000 in
theorem gX6_look_X6_leastGrey : GoodIn wsX6_look (wsV RX6 97 RX6 yX6_leastGrey wsX6_leastGrey) := goodIn_app (goodIn_of _ (by decide +kernel)) ggX6_look_X6_leastGrey
theorem dX6_look_0 : decode cX6_look 0 = .ok (.aload_n 0, 1) := by decide +kernel
theorem dX6_look_1 : decode cX6_look 1 = .ok (.getfield 70, 3) := by decide +kernel
theorem dX6_look_4 : decode cX6_look 4 = .ok (.aload_n 0, 1) := by decide +kernel
theorem dX6_look_5 : decode cX6_look 5 = .ok (.getfield 19, 3) := by decide +kernel
theorem dX6_look_8 : decode cX6_look 8 = .ok (.if_icmp .ge 27, 3) := by decide +kernel
theorem dX6_look_11 : decode cX6_look 11 = .ok (.aload_n 0, 1) := by decide +kernel
theorem dX6_look_12 : decode cX6_look 12 = .ok (.aload_n 0, 1) := by decide +kernel
theorem dX6_look_13 : decode cX6_look 13 = .ok (.getfield 32, 3) := by decide +kernel
theorem dX6_look_16 : decode cX6_look 16 = .ok (.aload_n 0, 1) := by decide +kernel
theorem dX6_look_17 : decode cX6_look 17 = .ok (.getfield 70, 3) := by decide +kernel
theorem dX6_look_20 : decode cX6_look 20 = .ok (.iaload, 1) := by decide +kernel
theorem dX6_look_21 : decode cX6_look 21 = .ok (.invokevirtual 105, 3) := by decide +kernel
theorem dX6_look_24 : decode cX6_look 24 = .ok (.aload_n 0, 1) := by decide +kernel
theorem dX6_look_25 : decode cX6_look 25 = .ok (.dup, 1) := by decide +kernel
theorem dX6_look_26 : decode cX6_look 26 = .ok (.getfield 70, 3) := by decide +kernel
theorem dX6_look_29 : decode cX6_look 29 = .ok (.iconst 1, 1) := by decide +kernel
theorem dX6_look_30 : decode cX6_look 30 = .ok (.iadd, 1) := by decide +kernel
theorem dX6_look_31 : decode cX6_look 31 = .ok (.putfield 70, 3) := by decide +kernel
theorem dX6_look_34 : decode cX6_look 34 = .ok (.return_, 1) := by decide +kernel
theorem dX6_look_35 : decode cX6_look 35 = .ok (.aload_n 0, 1) := by decide +kernel
theorem dX6_look_36 : decode cX6_look 36 = .ok (.invokevirtual 97, 3) := by decide +kernel
theorem dX6_look_39 : decode cX6_look 39 = .ok (.istore_n 1, 1) := by decide +kernel
theorem dX6_look_40 : decode cX6_look 40 = .ok (.aload_n 0, 1) := by decide +kernel
theorem dX6_look_41 : decode cX6_look 41 = .ok (.aload_n 0, 1) := by decide +kernel
theorem dX6_look_42 : decode cX6_look 42 = .ok (.getfield 29, 3) := by decide +kernel
theorem dX6_look_45 : decode cX6_look 45 = .ok (.iconst 2, 1) := by decide +kernel
theorem dX6_look_46 : decode cX6_look 46 = .ok (.iload_n 1, 1) := by decide +kernel
theorem dX6_look_47 : decode cX6_look 47 = .ok (.imul, 1) := by decide +kernel
theorem dX6_look_48 : decode cX6_look 48 = .ok (.aload_n 0, 1) := by decide +kernel
theorem dX6_look_49 : decode cX6_look 49 = .ok (.getfield 38, 3) := by decide +kernel
theorem dX6_look_52 : decode cX6_look 52 = .ok (.iload_n 1, 1) := by decide +kernel
theorem dX6_look_53 : decode cX6_look 53 = .ok (.iaload, 1) := by decide +kernel
theorem dX6_look_54 : decode cX6_look 54 = .ok (.iadd, 1) := by decide +kernel
theorem dX6_look_55 : decode cX6_look 55 = .ok (.iaload, 1) := by decide +kernel
theorem dX6_look_56 : decode cX6_look 56 = .ok (.invokevirtual 105, 3) := by decide +kernel
theorem dX6_look_59 : decode cX6_look 59 = .ok (.aload_n 0, 1) := by decide +kernel
theorem dX6_look_60 : decode cX6_look 60 = .ok (.getfield 38, 3) := by decide +kernel
theorem dX6_look_63 : decode cX6_look 63 = .ok (.iload_n 1, 1) := by decide +kernel
theorem dX6_look_64 : decode cX6_look 64 = .ok (.dup2, 1) := by decide +kernel
theorem dX6_look_65 : decode cX6_look 65 = .ok (.iaload, 1) := by decide +kernel
theorem dX6_look_66 : decode cX6_look 66 = .ok (.iconst 1, 1) := by decide +kernel
theorem dX6_look_67 : decode cX6_look 67 = .ok (.iadd, 1) := by decide +kernel
theorem dX6_look_68 : decode cX6_look 68 = .ok (.iastore, 1) := by decide +kernel
theorem dX6_look_69 : decode cX6_look 69 = .ok (.aload_n 0, 1) := by decide +kernel
theorem dX6_look_70 : decode cX6_look 70 = .ok (.getfield 38, 3) := by decide +kernel
theorem dX6_look_73 : decode cX6_look 73 = .ok (.iload_n 1, 1) := by decide +kernel
theorem dX6_look_74 : decode cX6_look 74 = .ok (.iaload, 1) := by decide +kernel
theorem dX6_look_75 : decode cX6_look 75 = .ok (.aload_n 0, 1) := by decide +kernel
theorem dX6_look_76 : decode cX6_look 76 = .ok (.getfield 16, 3) := by decide +kernel
theorem dX6_look_79 : decode cX6_look 79 = .ok (.if_icmp .ge 4, 3) := by decide +kernel
theorem dX6_look_82 : decode cX6_look 82 = .ok (.return_, 1) := by decide +kernel
theorem dX6_look_83 : decode cX6_look 83 = .ok (.aload_n 0, 1) := by decide +kernel
theorem dX6_look_84 : decode cX6_look 84 = .ok (.getfield 35, 3) := by decide +kernel
theorem dX6_look_87 : decode cX6_look 87 = .ok (.iload_n 1, 1) := by decide +kernel
theorem dX6_look_88 : decode cX6_look 88 = .ok (.iconst 2, 1) := by decide +kernel
theorem dX6_look_89 : decode cX6_look 89 = .ok (.iastore, 1) := by decide +kernel
theorem dX6_look_90 : decode cX6_look 90 = .ok (.aload_n 0, 1) := by decide +kernel
theorem dX6_look_91 : decode cX6_look 91 = .ok (.getfield 38, 3) := by decide +kernel
theorem dX6_look_94 : decode cX6_look 94 = .ok (.iload_n 1, 1) := by decide +kernel
theorem dX6_look_95 : decode cX6_look 95 = .ok (.iconst 0, 1) := by decide +kernel
theorem dX6_look_96 : decode cX6_look 96 = .ok (.iastore, 1) := by decide +kernel
theorem dX6_look_97 : decode cX6_look 97 = .ok (.return_, 1) := by decide +kernel
set_option maxRecDepth 20000 in
theorem ggX6_end_X6_bars : GoodIn wsX6_end wsX6_bars := goodIn_r _ [9, 10, 16, 17, 18, 19, 20, 21, 22, 23, 24, 25, 26, 27, 28, 29, 30, 31, 32, 33, 34, 35, 36, 37, 38, 39, 40] (by decide +kernel) (by decide +kernel)
set_option maxRecDepth 20000 in
theorem gX6_end_X6_bars : GoodIn wsX6_end (wsV RX6 109 RX6 yX6_bars wsX6_bars) := goodIn_app (goodIn_of _ (by decide +kernel)) ggX6_end_X6_bars
set_option maxRecDepth 20000 in
theorem ggX6_end_X6_toGrey : GoodIn wsX6_end wsX6_toGrey := goodIn_r _ [14, 3, 15, 16, 17, 18, 19, 20, 21, 22, 23, 24, 25, 26, 27, 28, 29, 30, 31, 32, 33, 34, 35, 36, 37, 38, 39, 40] (by decide +kernel) (by decide +kernel)
set_option maxRecDepth 20000 in
theorem gX6_end_X6_toGrey : GoodIn wsX6_end (wsV RX6 105 RX6 yX6_toGrey wsX6_toGrey) := goodIn_app (goodIn_of _ (by decide +kernel)) ggX6_end_X6_toGrey
theorem dX6_end_0 : decode cX6_end 0 = .ok (.iconst 0, 1) := by decide +kernel
theorem dX6_end_1 : decode cX6_end 1 = .ok (.istore_n 1, 1) := by decide +kernel
theorem dX6_end_2 : decode cX6_end 2 = .ok (.iconst 0, 1) := by decide +kernel
theorem dX6_end_3 : decode cX6_end 3 = .ok (.istore_n 2, 1) := by decide +kernel
theorem dX6_end_4 : decode cX6_end 4 = .ok (.iload_n 2, 1) := by decide +kernel
theorem dX6_end_5 : decode cX6_end 5 = .ok (.aload_n 0, 1) := by decide +kernel
theorem dX6_end_6 : decode cX6_end 6 = .ok (.getfield 19, 3) := by decide +kernel
theorem dX6_end_9 : decode cX6_end 9 = .ok (.if_icmp .ge 56, 3) := by decide +kernel
theorem dX6_end_12 : decode cX6_end 12 = .ok (.aload_n 0, 1) := by decide +kernel
theorem dX6_end_13 : decode cX6_end 13 = .ok (.bipush 32, 2) := by decide +kernel
theorem dX6_end_15 : decode cX6_end 15 = .ok (.invokevirtual 109, 3) := by decide +kernel
theorem dX6_end_18 : decode cX6_end 18 = .ok (.ifCond .eq 47, 3) := by decide +kernel
theorem dX6_end_21 : decode cX6_end 21 = .ok (.aload_n 0, 1) := by decide +kernel
theorem dX6_end_22 : decode cX6_end 22 = .ok (.getfield 32, 3) := by decide +kernel
theorem dX6_end_25 : decode cX6_end 25 = .ok (.iload_n 2, 1) := by decide +kernel
theorem dX6_end_26 : decode cX6_end 26 = .ok (.iaload, 1) := by decide +kernel
theorem dX6_end_27 : decode cX6_end 27 = .ok (.ifCond .lt 32, 3) := by decide +kernel
theorem dX6_end_30 : decode cX6_end 30 = .ok (.aload_n 0, 1) := by decide +kernel
theorem dX6_end_31 : decode cX6_end 31 = .ok (.getfield 35, 3) := by decide +kernel
theorem dX6_end_34 : decode cX6_end 34 = .ok (.aload_n 0, 1) := by decide +kernel
theorem dX6_end_35 : decode cX6_end 35 = .ok (.getfield 32, 3) := by decide +kernel
theorem dX6_end_38 : decode cX6_end 38 = .ok (.iload_n 2, 1) := by decide +kernel
theorem dX6_end_39 : decode cX6_end 39 = .ok (.iaload, 1) := by decide +kernel
theorem dX6_end_40 : decode cX6_end 40 = .ok (.iaload, 1) := by decide +kernel
theorem dX6_end_41 : decode cX6_end 41 = .ok (.ifCond .eq 6, 3) := by decide +kernel
theorem dX6_end_44 : decode cX6_end 44 = .ok (.goto 15, 3) := by decide +kernel
theorem dX6_end_47 : decode cX6_end 47 = .ok (.aload_n 0, 1) := by decide +kernel
theorem dX6_end_48 : decode cX6_end 48 = .ok (.aload_n 0, 1) := by decide +kernel
theorem dX6_end_49 : decode cX6_end 49 = .ok (.getfield 32, 3) := by decide +kernel
theorem dX6_end_52 : decode cX6_end 52 = .ok (.iload_n 2, 1) := by decide +kernel
theorem dX6_end_53 : decode cX6_end 53 = .ok (.iaload, 1) := by decide +kernel
theorem dX6_end_54 : decode cX6_end 54 = .ok (.invokevirtual 105, 3) := by decide +kernel
theorem dX6_end_57 : decode cX6_end 57 = .ok (.iconst 1, 1) := by decide +kernel
theorem dX6_end_58 : decode cX6_end 58 = .ok (.istore_n 1, 1) := by decide +kernel
theorem dX6_end_59 : decode cX6_end 59 = .ok (.iinc 2 1, 3) := by decide +kernel
theorem dX6_end_62 : decode cX6_end 62 = .ok (.goto (-58), 3) := by decide +kernel
theorem dX6_end_65 : decode cX6_end 65 = .ok (.iload_n 1, 1) := by decide +kernel
theorem dX6_end_66 : decode cX6_end 66 = .ok (.ifCond .ne 8, 3) := by decide +kernel
theorem dX6_end_69 : decode cX6_end 69 = .ok (.aload_n 0, 1) := by decide +kernel
theorem dX6_end_70 : decode cX6_end 70 = .ok (.iconst 1, 1) := by decide +kernel
theorem dX6_end_71 : decode cX6_end 71 = .ok (.putfield 79, 3) := by decide +kernel
theorem dX6_end_74 : decode cX6_end 74 = .ok (.return_, 1) := by decide +kernel
set_option maxRecDepth 20000 in
theorem ggX6_setRoot_X6_bars : GoodIn wsX6_setRoot wsX6_bars := goodIn_r _ [6, 7, 14, 15, 16, 17, 18, 19, 20, 21, 22, 23, 24, 25, 26, 27, 28, 29, 30, 31, 32, 33, 34, 35, 36, 37, 38] (by decide +kernel) (by decide +kernel)
set_option maxRecDepth 20000 in
theorem gX6_setRoot_X6_bars : GoodIn wsX6_setRoot (wsV RX6 109 RX6 yX6_bars wsX6_bars) := goodIn_app (goodIn_of _ (by decide +kernel)) ggX6_setRoot_X6_bars
set_option maxRecDepth 20000 in
theorem ggX6_setRoot_X6_toGrey : GoodIn wsX6_setRoot wsX6_toGrey := goodIn_r _ [11, 12, 13, 14, 15, 16, 17, 18, 19, 20, 21, 22, 23, 24, 25, 26, 27, 28, 29, 30, 31, 32, 33, 34, 35, 36, 37, 38] (by decide +kernel) (by decide +kernel)
set_option maxRecDepth 20000 in
theorem gX6_setRoot_X6_toGrey : GoodIn wsX6_setRoot (wsV RX6 105 RX6 yX6_toGrey wsX6_toGrey) := goodIn_app (goodIn_of _ (by decide +kernel)) ggX6_setRoot_X6_toGrey
theorem dX6_setRoot_0 : decode cX6_setRoot 0 = .ok (.aload_n 0, 1) := by decide +kernel
theorem dX6_setRoot_1 : decode cX6_setRoot 1 = .ok (.bipush 64, 2) := by decide +kernel
theorem dX6_setRoot_3 : decode cX6_setRoot 3 = .ok (.invokevirtual 109, 3) := by decide +kernel
theorem dX6_setRoot_6 : decode cX6_setRoot 6 = .ok (.ifCond .eq 13, 3) := by decide +kernel
theorem dX6_setRoot_9 : decode cX6_setRoot 9 = .ok (.aload_n 0, 1) := by decide +kernel
theorem dX6_setRoot_10 : decode cX6_setRoot 10 = .ok (.aload_n 0, 1) := by decide +kernel
theorem dX6_setRoot_11 : decode cX6_setRoot 11 = .ok (.getfield 32, 3) := by decide +kernel
theorem dX6_setRoot_14 : decode cX6_setRoot 14 = .ok (.iload_n 1, 1) := by decide +kernel
theorem dX6_setRoot_15 : decode cX6_setRoot 15 = .ok (.iaload, 1) := by decide +kernel
theorem dX6_setRoot_16 : decode cX6_setRoot 16 = .ok (.invokevirtual 105, 3) := by decide +kernel
theorem dX6_setRoot_19 : decode cX6_setRoot 19 = .ok (.iload_n 3, 1) := by decide +kernel
theorem dX6_setRoot_20 : decode cX6_setRoot 20 = .ok (.ifCond .eq 17, 3) := by decide +kernel
theorem dX6_setRoot_23 : decode cX6_setRoot 23 = .ok (.aload_n 0, 1) := by decide +kernel
theorem dX6_setRoot_24 : decode cX6_setRoot 24 = .ok (.bipush 16, 2) := by decide +kernel
theorem dX6_setRoot_26 : decode cX6_setRoot 26 = .ok (.invokevirtual 109, 3) := by decide +kernel
theorem dX6_setRoot_29 : decode cX6_setRoot 29 = .ok (.ifCond .eq 8, 3) := by decide +kernel
theorem dX6_setRoot_32 : decode cX6_setRoot 32 = .ok (.aload_n 0, 1) := by decide +kernel
theorem dX6_setRoot_33 : decode cX6_setRoot 33 = .ok (.iload_n 2, 1) := by decide +kernel
theorem dX6_setRoot_34 : decode cX6_setRoot 34 = .ok (.invokevirtual 105, 3) := by decide +kernel
theorem dX6_setRoot_37 : decode cX6_setRoot 37 = .ok (.aload_n 0, 1) := by decide +kernel
theorem dX6_setRoot_38 : decode cX6_setRoot 38 = .ok (.getfield 32, 3) := by decide +kernel
theorem dX6_setRoot_41 : decode cX6_setRoot 41 = .ok (.iload_n 1, 1) := by decide +kernel
theorem dX6_setRoot_42 : decode cX6_setRoot 42 = .ok (.iload_n 2, 1) := by decide +kernel
theorem dX6_setRoot_43 : decode cX6_setRoot 43 = .ok (.iastore, 1) := by decide +kernel
theorem dX6_setRoot_44 : decode cX6_setRoot 44 = .ok (.return_, 1) := by decide +kernel
set_option maxRecDepth 20000 in
theorem ggX6_store_X6_bars : GoodIn wsX6_store wsX6_bars := goodIn_r _ [9, 10, 15, 16, 17, 18, 19, 20, 21, 22, 23, 24, 25, 26, 27, 28, 29, 30, 31, 32, 33, 34, 35, 36, 37, 38, 39] (by decide +kernel) (by decide +kernel)
set_option maxRecDepth 20000 in
theorem gX6_store_X6_bars : GoodIn wsX6_store (wsV RX6 109 RX6 yX6_bars wsX6_bars) := goodIn_app (goodIn_of _ (by decide +kernel)) ggX6_store_X6_bars
set_option maxRecDepth 20000 in
theorem ggX6_store_X6_toGrey : GoodIn wsX6_store wsX6_toGrey := goodIn_r _ [14, 3, 4, 15, 16, 17, 18, 19, 20, 21, 22, 23, 24, 25, 26, 27, 28, 29, 30, 31, 32, 33, 34, 35, 36, 37, 38, 39] (by decide +kernel) (by decide +kernel)
set_option maxRecDepth 20000 in
theorem gX6_store_X6_toGrey : GoodIn wsX6_store (wsV RX6 105 RX6 yX6_toGrey wsX6_toGrey) := goodIn_app (goodIn_of _ (by decide +kernel)) ggX6_store_X6_toGrey
theorem dX6_store_0 : decode cX6_store 0 = .ok (.aload_n 0, 1) := by decide +kernel
theorem dX6_store_1 : decode cX6_store 1 = .ok (.getfield 32, 3) := by decide +kernel
theorem dX6_store_4 : decode cX6_store 4 = .ok (.iload_n 1, 1) := by decide +kernel
theorem dX6_store_5 : decode cX6_store 5 = .ok (.iaload, 1) := by decide +kernel
theorem dX6_store_6 : decode cX6_store 6 = .ok (.istore 4, 2) := by decide +kernel
theorem dX6_store_8 : decode cX6_store 8 = .ok (.aload_n 0, 1) := by decide +kernel
theorem dX6_store_9 : decode cX6_store 9 = .ok (.getfield 32, 3) := by decide +kernel
theorem dX6_store_12 : decode cX6_store 12 = .ok (.iload_n 2, 1) := by decide +kernel
theorem dX6_store_13 : decode cX6_store 13 = .ok (.iaload, 1) := by decide +kernel
theorem dX6_store_14 : decode cX6_store 14 = .ok (.istore 5, 2) := by decide +kernel
theorem dX6_store_16 : decode cX6_store 16 = .ok (.aload_n 0, 1) := by decide +kernel
theorem dX6_store_17 : decode cX6_store 17 = .ok (.iconst 1, 1) := by decide +kernel
theorem dX6_store_18 : decode cX6_store 18 = .ok (.invokevirtual 109, 3) := by decide +kernel
theorem dX6_store_21 : decode cX6_store 21 = .ok (.ifCond .eq 18, 3) := by decide +kernel
theorem dX6_store_24 : decode cX6_store 24 = .ok (.aload_n 0, 1) := by decide +kernel
theorem dX6_store_25 : decode cX6_store 25 = .ok (.aload_n 0, 1) := by decide +kernel
theorem dX6_store_26 : decode cX6_store 26 = .ok (.getfield 29, 3) := by decide +kernel
theorem dX6_store_29 : decode cX6_store 29 = .ok (.iconst 2, 1) := by decide +kernel
theorem dX6_store_30 : decode cX6_store 30 = .ok (.iload 4, 2) := by decide +kernel
theorem dX6_store_32 : decode cX6_store 32 = .ok (.imul, 1) := by decide +kernel
theorem dX6_store_33 : decode cX6_store 33 = .ok (.iload_n 3, 1) := by decide +kernel
theorem dX6_store_34 : decode cX6_store 34 = .ok (.iadd, 1) := by decide +kernel
theorem dX6_store_35 : decode cX6_store 35 = .ok (.iaload, 1) := by decide +kernel
theorem dX6_store_36 : decode cX6_store 36 = .ok (.invokevirtual 105, 3) := by decide +kernel
theorem dX6_store_39 : decode cX6_store 39 = .ok (.aload_n 0, 1) := by decide +kernel
theorem dX6_store_40 : decode cX6_store 40 = .ok (.iconst 2, 1) := by decide +kernel
theorem dX6_store_41 : decode cX6_store 41 = .ok (.invokevirtual 109, 3) := by decide +kernel
theorem dX6_store_44 : decode cX6_store 44 = .ok (.ifCond .eq 9, 3) := by decide +kernel
theorem dX6_store_47 : decode cX6_store 47 = .ok (.aload_n 0, 1) := by decide +kernel
theorem dX6_store_48 : decode cX6_store 48 = .ok (.iload 5, 2) := by decide +kernel
theorem dX6_store_50 : decode cX6_store 50 = .ok (.invokevirtual 105, 3) := by decide +kernel
theorem dX6_store_53 : decode cX6_store 53 = .ok (.aload_n 0, 1) := by decide +kernel
theorem dX6_store_54 : decode cX6_store 54 = .ok (.iconst 4, 1) := by decide +kernel
theorem dX6_store_55 : decode cX6_store 55 = .ok (.invokevirtual 109, 3) := by decide +kernel
theorem dX6_store_58 : decode cX6_store 58 = .ok (.ifCond .eq 20, 3) := by decide +kernel
theorem dX6_store_61 : decode cX6_store 61 = .ok (.aload_n 0, 1) := by decide +kernel
theorem dX6_store_62 : decode cX6_store 62 = .ok (.getfield 35, 3) := by decide +kernel
theorem dX6_store_65 : decode cX6_store 65 = .ok (.iload 4, 2) := by decide +kernel
theorem dX6_store_67 : decode cX6_store 67 = .ok (.iaload, 1) := by decide +kernel
theorem dX6_store_68 : decode cX6_store 68 = .ok (.iconst 2, 1) := by decide +kernel
theorem dX6_store_69 : decode cX6_store 69 = .ok (.if_icmp .ne 9, 3) := by decide +kernel
theorem dX6_store_72 : decode cX6_store 72 = .ok (.aload_n 0, 1) := by decide +kernel
theorem dX6_store_73 : decode cX6_store 73 = .ok (.iload 5, 2) := by decide +kernel
theorem dX6_store_75 : decode cX6_store 75 = .ok (.invokevirtual 105, 3) := by decide +kernel
theorem dX6_store_78 : decode cX6_store 78 = .ok (.aload_n 0, 1) := by decide +kernel
theorem dX6_store_79 : decode cX6_store 79 = .ok (.bipush 8, 2) := by decide +kernel
theorem dX6_store_81 : decode cX6_store 81 = .ok (.invokevirtual 109, 3) := by decide +kernel
theorem dX6_store_84 : decode cX6_store 84 = .ok (.ifCond .eq 45, 3) := by decide +kernel
theorem dX6_store_87 : decode cX6_store 87 = .ok (.aload_n 0, 1) := by decide +kernel
theorem dX6_store_88 : decode cX6_store 88 = .ok (.getfield 35, 3) := by decide +kernel
theorem dX6_store_91 : decode cX6_store 91 = .ok (.iload 4, 2) := by decide +kernel
theorem dX6_store_93 : decode cX6_store 93 = .ok (.iaload, 1) := by decide +kernel
theorem dX6_store_94 : decode cX6_store 94 = .ok (.iconst 2, 1) := by decide +kernel
theorem dX6_store_95 : decode cX6_store 95 = .ok (.if_icmp .ne 34, 3) := by decide +kernel
theorem dX6_store_98 : decode cX6_store 98 = .ok (.iload 5, 2) := by decide +kernel
theorem dX6_store_100 : decode cX6_store 100 = .ok (.ifCond .lt 29, 3) := by decide +kernel
theorem dX6_store_103 : decode cX6_store 103 = .ok (.aload_n 0, 1) := by decide +kernel
theorem dX6_store_104 : decode cX6_store 104 = .ok (.getfield 35, 3) := by decide +kernel
theorem dX6_store_107 : decode cX6_store 107 = .ok (.iload 5, 2) := by decide +kernel
theorem dX6_store_109 : decode cX6_store 109 = .ok (.iaload, 1) := by decide +kernel
theorem dX6_store_110 : decode cX6_store 110 = .ok (.ifCond .ne 19, 3) := by decide +kernel
theorem dX6_store_113 : decode cX6_store 113 = .ok (.aload_n 0, 1) := by decide +kernel
theorem dX6_store_114 : decode cX6_store 114 = .ok (.getfield 35, 3) := by decide +kernel
theorem dX6_store_117 : decode cX6_store 117 = .ok (.iload 4, 2) := by decide +kernel
theorem dX6_store_119 : decode cX6_store 119 = .ok (.iconst 1, 1) := by decide +kernel
theorem dX6_store_120 : decode cX6_store 120 = .ok (.iastore, 1) := by decide +kernel
theorem dX6_store_121 : decode cX6_store 121 = .ok (.aload_n 0, 1) := by decide +kernel
theorem dX6_store_122 : decode cX6_store 122 = .ok (.getfield 38, 3) := by decide +kernel
theorem dX6_store_125 : decode cX6_store 125 = .ok (.iload 4, 2) := by decide +kernel
theorem dX6_store_127 : decode cX6_store 127 = .ok (.iconst 0, 1) := by decide +kernel
theorem dX6_store_128 : decode cX6_store 128 = .ok (.iastore, 1) := by decide +kernel
theorem dX6_store_129 : decode cX6_store 129 = .ok (.aload_n 0, 1) := by decide +kernel
theorem dX6_store_130 : decode cX6_store 130 = .ok (.getfield 29, 3) := by decide +kernel
theorem dX6_store_133 : decode cX6_store 133 = .ok (.iconst 2, 1) := by decide +kernel
theorem dX6_store_134 : decode cX6_store 134 = .ok (.iload 4, 2) := by decide +kernel
theorem dX6_store_136 : decode cX6_store 136 = .ok (.imul, 1) := by decide +kernel
theorem dX6_store_137 : decode cX6_store 137 = .ok (.iload_n 3, 1) := by decide +kernel
theorem dX6_store_138 : decode cX6_store 138 = .ok (.iadd, 1) := by decide +kernel
theorem dX6_store_139 : decode cX6_store 139 = .ok (.iload 5, 2) := by decide +kernel
theorem dX6_store_141 : decode cX6_store 141 = .ok (.iastore, 1) := by decide +kernel
theorem dX6_store_142 : decode cX6_store 142 = .ok (.return_, 1) := by decide +kernel
set_option maxRecDepth 20000 in
theorem ggX6_act0_X6_look : GoodIn wsX6_act0 wsX6_look := goodIn_r _ [8, 9, 10, 2, 3, 11, 12, 13, 14, 15, 16, 7, 17, 18, 19, 20, 21, 22, 41, 42, 43, 44, 45, 46, 47, 48, 49, 50, 51, 52, 53, 54, 55, 56, 57, 58, 59, 60, 61, 62, 63, 64, 65] (by decide +kernel) (by decide +kernel)
set_option maxRecDepth 20000 in
theorem gX6_act0_X6_look : GoodIn wsX6_act0 (wsV RX6 112 RX6 yX6_look wsX6_look) := goodIn_app (goodIn_of _ (by decide +kernel)) ggX6_act0_X6_look
set_option maxRecDepth 20000 in
theorem ggX6_act0_X6_end : GoodIn wsX6_act0 wsX6_end := goodIn_r _ [26, 10, 2, 13, 27, 28, 29, 30, 7, 31, 32, 14, 15, 16, 17, 11, 41, 42, 43, 44, 45, 46, 47, 48, 49, 50, 51, 52, 53, 54, 55, 56, 57, 58, 59, 60, 61, 62, 63, 64, 65] (by decide +kernel) (by decide +kernel)
set_option maxRecDepth 20000 in
theorem gX6_act0_X6_end : GoodIn wsX6_act0 (wsV RX6 115 RX6 yX6_end wsX6_end) := goodIn_app (goodIn_of _ (by decide +kernel)) ggX6_act0_X6_end
set_option maxRecDepth 20000 in
theorem ggX6_act0_X6_setRoot : GoodIn wsX6_act0 wsX6_setRoot := goodIn_r _ [36, 2, 28, 29, 30, 7, 31, 32, 14, 15, 16, 17, 13, 11, 41, 42, 43, 44, 45, 46, 47, 48, 49, 50, 51, 52, 53, 54, 55, 56, 57, 58, 59, 60, 61, 62, 63, 64, 65] (by decide +kernel) (by decide +kernel)
set_option maxRecDepth 20000 in
theorem gX6_act0_X6_setRoot : GoodIn wsX6_act0 (wsV RX6 118 RX6 yX6_setRoot wsX6_setRoot) := goodIn_app (goodIn_of _ (by decide +kernel)) ggX6_act0_X6_setRoot
set_option maxRecDepth 20000 in
theorem ggX6_act0_X6_store : GoodIn wsX6_act0 wsX6_store := goodIn_r _ [40, 2, 3, 13, 11, 28, 29, 30, 7, 31, 32, 14, 15, 16, 17, 41, 42, 43, 44, 45, 46, 47, 48, 49, 50, 51, 52, 53, 54, 55, 56, 57, 58, 59, 60, 61, 62, 63, 64, 65] (by decide +kernel) (by decide +kernel)
set_option maxRecDepth 20000 in
theorem gX6_act0_X6_store : GoodIn wsX6_act0 (wsV RX6 122 RX6 yX6_store wsX6_store) := goodIn_app (goodIn_of _ (by decide +kernel)) ggX6_act0_X6_store
theorem dX6_act0_0 : decode cX6_act0 0 = .ok (.iload_n 1, 1) := by decide +kernel
theorem dX6_act0_1 : decode cX6_act0 1 = .ok (.ifCond .ne 8, 3) := by decide +kernel
theorem dX6_act0_4 : decode cX6_act0 4 = .ok (.aload_n 0, 1) := by decide +kernel
theorem dX6_act0_5 : decode cX6_act0 5 = .ok (.invokevirtual 112, 3) := by decide +kernel
theorem dX6_act0_8 : decode cX6_act0 8 = .ok (.return_, 1) := by decide +kernel
theorem dX6_act0_9 : decode cX6_act0 9 = .ok (.iload_n 1, 1) := by decide +kernel
theorem dX6_act0_10 : decode cX6_act0 10 = .ok (.iconst 1, 1) := by decide +kernel
theorem dX6_act0_11 : decode cX6_act0 11 = .ok (.if_icmp .ne 8, 3) := by decide +kernel
theorem dX6_act0_14 : decode cX6_act0 14 = .ok (.aload_n 0, 1) := by decide +kernel
theorem dX6_act0_15 : decode cX6_act0 15 = .ok (.invokevirtual 115, 3) := by decide +kernel
theorem dX6_act0_18 : decode cX6_act0 18 = .ok (.return_, 1) := by decide +kernel
theorem dX6_act0_19 : decode cX6_act0 19 = .ok (.aload_n 0, 1) := by decide +kernel
theorem dX6_act0_20 : decode cX6_act0 20 = .ok (.dup, 1) := by decide +kernel
theorem dX6_act0_21 : decode cX6_act0 21 = .ok (.getfield 76, 3) := by decide +kernel
theorem dX6_act0_24 : decode cX6_act0 24 = .ok (.iconst 1, 1) := by decide +kernel
theorem dX6_act0_25 : decode cX6_act0 25 = .ok (.isub, 1) := by decide +kernel
theorem dX6_act0_26 : decode cX6_act0 26 = .ok (.putfield 76, 3) := by decide +kernel
theorem dX6_act0_29 : decode cX6_act0 29 = .ok (.iload_n 1, 1) := by decide +kernel
theorem dX6_act0_30 : decode cX6_act0 30 = .ok (.bipush 11, 2) := by decide +kernel
theorem dX6_act0_32 : decode cX6_act0 32 = .ok (.if_icmp .ge 26, 3) := by decide +kernel
theorem dX6_act0_35 : decode cX6_act0 35 = .ok (.aload_n 0, 1) := by decide +kernel
theorem dX6_act0_36 : decode cX6_act0 36 = .ok (.iload_n 1, 1) := by decide +kernel
theorem dX6_act0_37 : decode cX6_act0 37 = .ok (.iconst 2, 1) := by decide +kernel
theorem dX6_act0_38 : decode cX6_act0 38 = .ok (.isub, 1) := by decide +kernel
theorem dX6_act0_39 : decode cX6_act0 39 = .ok (.iconst 3, 1) := by decide +kernel
theorem dX6_act0_40 : decode cX6_act0 40 = .ok (.idiv, 1) := by decide +kernel
theorem dX6_act0_41 : decode cX6_act0 41 = .ok (.aload_n 0, 1) := by decide +kernel
theorem dX6_act0_42 : decode cX6_act0 42 = .ok (.getfield 32, 3) := by decide +kernel
theorem dX6_act0_45 : decode cX6_act0 45 = .ok (.iload_n 1, 1) := by decide +kernel
theorem dX6_act0_46 : decode cX6_act0 46 = .ok (.iconst 2, 1) := by decide +kernel
theorem dX6_act0_47 : decode cX6_act0 47 = .ok (.isub, 1) := by decide +kernel
theorem dX6_act0_48 : decode cX6_act0 48 = .ok (.iconst 3, 1) := by decide +kernel
theorem dX6_act0_49 : decode cX6_act0 49 = .ok (.irem, 1) := by decide +kernel
theorem dX6_act0_50 : decode cX6_act0 50 = .ok (.iaload, 1) := by decide +kernel
theorem dX6_act0_51 : decode cX6_act0 51 = .ok (.iconst 1, 1) := by decide +kernel
theorem dX6_act0_52 : decode cX6_act0 52 = .ok (.invokevirtual 118, 3) := by decide +kernel
theorem dX6_act0_55 : decode cX6_act0 55 = .ok (.goto 89, 3) := by decide +kernel
theorem dX6_act0_58 : decode cX6_act0 58 = .ok (.iload_n 1, 1) := by decide +kernel
theorem dX6_act0_59 : decode cX6_act0 59 = .ok (.bipush 29, 2) := by decide +kernel
theorem dX6_act0_61 : decode cX6_act0 61 = .ok (.if_icmp .ge 42, 3) := by decide +kernel
theorem dX6_act0_64 : decode cX6_act0 64 = .ok (.iload_n 1, 1) := by decide +kernel
theorem dX6_act0_65 : decode cX6_act0 65 = .ok (.bipush 11, 2) := by decide +kernel
theorem dX6_act0_67 : decode cX6_act0 67 = .ok (.isub, 1) := by decide +kernel
theorem dX6_act0_68 : decode cX6_act0 68 = .ok (.istore_n 2, 1) := by decide +kernel
theorem dX6_act0_69 : decode cX6_act0 69 = .ok (.aload_n 0, 1) := by decide +kernel
theorem dX6_act0_70 : decode cX6_act0 70 = .ok (.iload_n 2, 1) := by decide +kernel
theorem dX6_act0_71 : decode cX6_act0 71 = .ok (.bipush 6, 2) := by decide +kernel
theorem dX6_act0_73 : decode cX6_act0 73 = .ok (.idiv, 1) := by decide +kernel
theorem dX6_act0_74 : decode cX6_act0 74 = .ok (.aload_n 0, 1) := by decide +kernel
theorem dX6_act0_75 : decode cX6_act0 75 = .ok (.getfield 29, 3) := by decide +kernel
theorem dX6_act0_78 : decode cX6_act0 78 = .ok (.iconst 2, 1) := by decide +kernel
theorem dX6_act0_79 : decode cX6_act0 79 = .ok (.aload_n 0, 1) := by decide +kernel
theorem dX6_act0_80 : decode cX6_act0 80 = .ok (.getfield 32, 3) := by decide +kernel
theorem dX6_act0_83 : decode cX6_act0 83 = .ok (.iload_n 2, 1) := by decide +kernel
theorem dX6_act0_84 : decode cX6_act0 84 = .ok (.bipush 6, 2) := by decide +kernel
theorem dX6_act0_86 : decode cX6_act0 86 = .ok (.irem, 1) := by decide +kernel
theorem dX6_act0_87 : decode cX6_act0 87 = .ok (.iconst 2, 1) := by decide +kernel
theorem dX6_act0_88 : decode cX6_act0 88 = .ok (.idiv, 1) := by decide +kernel
theorem dX6_act0_89 : decode cX6_act0 89 = .ok (.iaload, 1) := by decide +kernel
theorem dX6_act0_90 : decode cX6_act0 90 = .ok (.imul, 1) := by decide +kernel
theorem dX6_act0_91 : decode cX6_act0 91 = .ok (.iload_n 2, 1) := by decide +kernel
theorem dX6_act0_92 : decode cX6_act0 92 = .ok (.iconst 2, 1) := by decide +kernel
theorem dX6_act0_93 : decode cX6_act0 93 = .ok (.irem, 1) := by decide +kernel
theorem dX6_act0_94 : decode cX6_act0 94 = .ok (.iadd, 1) := by decide +kernel
theorem dX6_act0_95 : decode cX6_act0 95 = .ok (.iaload, 1) := by decide +kernel
theorem dX6_act0_96 : decode cX6_act0 96 = .ok (.iconst 1, 1) := by decide +kernel
theorem dX6_act0_97 : decode cX6_act0 97 = .ok (.invokevirtual 118, 3) := by decide +kernel
theorem dX6_act0_100 : decode cX6_act0 100 = .ok (.goto 44, 3) := by decide +kernel
theorem dX6_act0_103 : decode cX6_act0 103 = .ok (.iload_n 1, 1) := by decide +kernel
theorem dX6_act0_104 : decode cX6_act0 104 = .ok (.bipush 47, 2) := by decide +kernel
theorem dX6_act0_106 : decode cX6_act0 106 = .ok (.if_icmp .ge 28, 3) := by decide +kernel
theorem dX6_act0_109 : decode cX6_act0 109 = .ok (.iload_n 1, 1) := by decide +kernel
theorem dX6_act0_110 : decode cX6_act0 110 = .ok (.bipush 29, 2) := by decide +kernel
theorem dX6_act0_112 : decode cX6_act0 112 = .ok (.isub, 1) := by decide +kernel
theorem dX6_act0_113 : decode cX6_act0 113 = .ok (.istore_n 2, 1) := by decide +kernel
theorem dX6_act0_114 : decode cX6_act0 114 = .ok (.aload_n 0, 1) := by decide +kernel
theorem dX6_act0_115 : decode cX6_act0 115 = .ok (.iload_n 2, 1) := by decide +kernel
theorem dX6_act0_116 : decode cX6_act0 116 = .ok (.bipush 6, 2) := by decide +kernel
theorem dX6_act0_118 : decode cX6_act0 118 = .ok (.idiv, 1) := by decide +kernel
theorem dX6_act0_119 : decode cX6_act0 119 = .ok (.iload_n 2, 1) := by decide +kernel
theorem dX6_act0_120 : decode cX6_act0 120 = .ok (.bipush 6, 2) := by decide +kernel
theorem dX6_act0_122 : decode cX6_act0 122 = .ok (.irem, 1) := by decide +kernel
theorem dX6_act0_123 : decode cX6_act0 123 = .ok (.iconst 2, 1) := by decide +kernel
theorem dX6_act0_124 : decode cX6_act0 124 = .ok (.idiv, 1) := by decide +kernel
theorem dX6_act0_125 : decode cX6_act0 125 = .ok (.iload_n 2, 1) := by decide +kernel
theorem dX6_act0_126 : decode cX6_act0 126 = .ok (.iconst 2, 1) := by decide +kernel
theorem dX6_act0_127 : decode cX6_act0 127 = .ok (.irem, 1) := by decide +kernel
theorem dX6_act0_128 : decode cX6_act0 128 = .ok (.invokevirtual 122, 3) := by decide +kernel
theorem dX6_act0_131 : decode cX6_act0 131 = .ok (.goto 13, 3) := by decide +kernel
theorem dX6_act0_134 : decode cX6_act0 134 = .ok (.aload_n 0, 1) := by decide +kernel
theorem dX6_act0_135 : decode cX6_act0 135 = .ok (.iload_n 1, 1) := by decide +kernel
theorem dX6_act0_136 : decode cX6_act0 136 = .ok (.bipush 47, 2) := by decide +kernel
theorem dX6_act0_138 : decode cX6_act0 138 = .ok (.isub, 1) := by decide +kernel
theorem dX6_act0_139 : decode cX6_act0 139 = .ok (.iconst (-1), 1) := by decide +kernel
theorem dX6_act0_140 : decode cX6_act0 140 = .ok (.iconst 0, 1) := by decide +kernel
theorem dX6_act0_141 : decode cX6_act0 141 = .ok (.invokevirtual 118, 3) := by decide +kernel
theorem dX6_act0_144 : decode cX6_act0 144 = .ok (.return_, 1) := by decide +kernel
set_option maxRecDepth 20000 in
theorem ggX6_canDoMany_X6_canDo : GoodIn wsX6_canDoMany wsX6_canDo := goodIn_r _ [5, 6, 7, 8, 9, 10, 11, 12, 13, 14, 4, 15, 16, 17, 18, 19, 20, 21, 22, 23, 24, 25, 26, 27, 28, 29, 30, 31, 32, 33, 34, 35, 36, 37, 38, 39, 40, 41, 42, 43, 44, 45, 46] (by decide +kernel) (by decide +kernel)
set_option maxRecDepth 20000 in
theorem gX6_canDoMany_X6_canDo : GoodIn wsX6_canDoMany (wsV RX6 126 RX6 yX6_canDo wsX6_canDo) := goodIn_app (goodIn_of _ (by decide +kernel)) ggX6_canDoMany_X6_canDo
theorem dX6_canDoMany_0 : decode cX6_canDoMany 0 = .ok (.iconst 0, 1) := by decide +kernel
theorem dX6_canDoMany_1 : decode cX6_canDoMany 1 = .ok (.istore_n 1, 1) := by decide +kernel
theorem dX6_canDoMany_2 : decode cX6_canDoMany 2 = .ok (.iconst 0, 1) := by decide +kernel
theorem dX6_canDoMany_3 : decode cX6_canDoMany 3 = .ok (.istore_n 2, 1) := by decide +kernel
theorem dX6_canDoMany_4 : decode cX6_canDoMany 4 = .ok (.iload_n 2, 1) := by decide +kernel
theorem dX6_canDoMany_5 : decode cX6_canDoMany 5 = .ok (.bipush 50, 2) := by decide +kernel
theorem dX6_canDoMany_7 : decode cX6_canDoMany 7 = .ok (.if_icmp .ge 20, 3) := by decide +kernel
theorem dX6_canDoMany_10 : decode cX6_canDoMany 10 = .ok (.aload_n 0, 1) := by decide +kernel
theorem dX6_canDoMany_11 : decode cX6_canDoMany 11 = .ok (.iload_n 2, 1) := by decide +kernel
theorem dX6_canDoMany_12 : decode cX6_canDoMany 12 = .ok (.invokevirtual 126, 3) := by decide +kernel
theorem dX6_canDoMany_15 : decode cX6_canDoMany 15 = .ok (.ifCond .eq 6, 3) := by decide +kernel
theorem dX6_canDoMany_18 : decode cX6_canDoMany 18 = .ok (.iinc 1 1, 3) := by decide +kernel
theorem dX6_canDoMany_21 : decode cX6_canDoMany 21 = .ok (.iinc 2 1, 3) := by decide +kernel
theorem dX6_canDoMany_24 : decode cX6_canDoMany 24 = .ok (.goto (-20), 3) := by decide +kernel
theorem dX6_canDoMany_27 : decode cX6_canDoMany 27 = .ok (.iload_n 1, 1) := by decide +kernel
theorem dX6_canDoMany_28 : decode cX6_canDoMany 28 = .ok (.ireturn, 1) := by decide +kernel
theorem dX6_spread_0 : decode cX6_spread 0 = .ok (.iconst 1, 1) := by decide +kernel
theorem dX6_spread_1 : decode cX6_spread 1 = .ok (.istore_n 2, 1) := by decide +kernel
theorem dX6_spread_2 : decode cX6_spread 2 = .ok (.iload_n 2, 1) := by decide +kernel
theorem dX6_spread_3 : decode cX6_spread 3 = .ok (.ifCond .eq 106, 3) := by decide +kernel
theorem dX6_spread_6 : decode cX6_spread 6 = .ok (.iconst 0, 1) := by decide +kernel
theorem dX6_spread_7 : decode cX6_spread 7 = .ok (.istore_n 2, 1) := by decide +kernel
theorem dX6_spread_8 : decode cX6_spread 8 = .ok (.iconst 0, 1) := by decide +kernel
theorem dX6_spread_9 : decode cX6_spread 9 = .ok (.istore_n 3, 1) := by decide +kernel
theorem dX6_spread_10 : decode cX6_spread 10 = .ok (.iload_n 3, 1) := by decide +kernel
theorem dX6_spread_11 : decode cX6_spread 11 = .ok (.aload_n 0, 1) := by decide +kernel
theorem dX6_spread_12 : decode cX6_spread 12 = .ok (.getfield 13, 3) := by decide +kernel
theorem dX6_spread_15 : decode cX6_spread 15 = .ok (.if_icmp .ge 91, 3) := by decide +kernel
theorem dX6_spread_18 : decode cX6_spread 18 = .ok (.iconst 0, 1) := by decide +kernel
theorem dX6_spread_19 : decode cX6_spread 19 = .ok (.istore 4, 2) := by decide +kernel
theorem dX6_spread_21 : decode cX6_spread 21 = .ok (.iload 4, 2) := by decide +kernel
theorem dX6_spread_23 : decode cX6_spread 23 = .ok (.aload_n 0, 1) := by decide +kernel
theorem dX6_spread_24 : decode cX6_spread 24 = .ok (.getfield 16, 3) := by decide +kernel
theorem dX6_spread_27 : decode cX6_spread 27 = .ok (.if_icmp .ge 73, 3) := by decide +kernel
theorem dX6_spread_30 : decode cX6_spread 30 = .ok (.aload_n 0, 1) := by decide +kernel
theorem dX6_spread_31 : decode cX6_spread 31 = .ok (.getfield 58, 3) := by decide +kernel
theorem dX6_spread_34 : decode cX6_spread 34 = .ok (.iload_n 3, 1) := by decide +kernel
theorem dX6_spread_35 : decode cX6_spread 35 = .ok (.baload, 1) := by decide +kernel
theorem dX6_spread_36 : decode cX6_spread 36 = .ok (.ifCond .eq 64, 3) := by decide +kernel
theorem dX6_spread_39 : decode cX6_spread 39 = .ok (.aload_n 0, 1) := by decide +kernel
theorem dX6_spread_40 : decode cX6_spread 40 = .ok (.getfield 29, 3) := by decide +kernel
theorem dX6_spread_43 : decode cX6_spread 43 = .ok (.iconst 2, 1) := by decide +kernel
theorem dX6_spread_44 : decode cX6_spread 44 = .ok (.iload_n 3, 1) := by decide +kernel
theorem dX6_spread_45 : decode cX6_spread 45 = .ok (.imul, 1) := by decide +kernel
theorem dX6_spread_46 : decode cX6_spread 46 = .ok (.iload 4, 2) := by decide +kernel
theorem dX6_spread_48 : decode cX6_spread 48 = .ok (.iadd, 1) := by decide +kernel
theorem dX6_spread_49 : decode cX6_spread 49 = .ok (.iaload, 1) := by decide +kernel
theorem dX6_spread_50 : decode cX6_spread 50 = .ok (.istore 5, 2) := by decide +kernel
theorem dX6_spread_52 : decode cX6_spread 52 = .ok (.iload 5, 2) := by decide +kernel
theorem dX6_spread_54 : decode cX6_spread 54 = .ok (.ifCond .lt 40, 3) := by decide +kernel
theorem dX6_spread_57 : decode cX6_spread 57 = .ok (.aload_n 0, 1) := by decide +kernel
theorem dX6_spread_58 : decode cX6_spread 58 = .ok (.getfield 58, 3) := by decide +kernel
theorem dX6_spread_61 : decode cX6_spread 61 = .ok (.iload 5, 2) := by decide +kernel
theorem dX6_spread_63 : decode cX6_spread 63 = .ok (.baload, 1) := by decide +kernel
theorem dX6_spread_64 : decode cX6_spread 64 = .ok (.ifCond .ne 30, 3) := by decide +kernel
theorem dX6_spread_67 : decode cX6_spread 67 = .ok (.iload_n 1, 1) := by decide +kernel
theorem dX6_spread_68 : decode cX6_spread 68 = .ok (.ifCond .eq 16, 3) := by decide +kernel
theorem dX6_spread_71 : decode cX6_spread 71 = .ok (.aload_n 0, 1) := by decide +kernel
theorem dX6_spread_72 : decode cX6_spread 72 = .ok (.getfield 35, 3) := by decide +kernel
theorem dX6_spread_75 : decode cX6_spread 75 = .ok (.iload 5, 2) := by decide +kernel
theorem dX6_spread_77 : decode cX6_spread 77 = .ok (.iaload, 1) := by decide +kernel
theorem dX6_spread_78 : decode cX6_spread 78 = .ok (.ifCond .eq 6, 3) := by decide +kernel
theorem dX6_spread_81 : decode cX6_spread 81 = .ok (.goto 13, 3) := by decide +kernel
theorem dX6_spread_84 : decode cX6_spread 84 = .ok (.aload_n 0, 1) := by decide +kernel
theorem dX6_spread_85 : decode cX6_spread 85 = .ok (.getfield 58, 3) := by decide +kernel
theorem dX6_spread_88 : decode cX6_spread 88 = .ok (.iload 5, 2) := by decide +kernel
theorem dX6_spread_90 : decode cX6_spread 90 = .ok (.iconst 1, 1) := by decide +kernel
theorem dX6_spread_91 : decode cX6_spread 91 = .ok (.bastore, 1) := by decide +kernel
theorem dX6_spread_92 : decode cX6_spread 92 = .ok (.iconst 1, 1) := by decide +kernel
theorem dX6_spread_93 : decode cX6_spread 93 = .ok (.istore_n 2, 1) := by decide +kernel
theorem dX6_spread_94 : decode cX6_spread 94 = .ok (.iinc 4 1, 3) := by decide +kernel
theorem dX6_spread_97 : decode cX6_spread 97 = .ok (.goto (-76), 3) := by decide +kernel
theorem dX6_spread_100 : decode cX6_spread 100 = .ok (.iinc 3 1, 3) := by decide +kernel
theorem dX6_spread_103 : decode cX6_spread 103 = .ok (.goto (-93), 3) := by decide +kernel
theorem dX6_spread_106 : decode cX6_spread 106 = .ok (.goto (-104), 3) := by decide +kernel
theorem dX6_spread_109 : decode cX6_spread 109 = .ok (.return_, 1) := by decide +kernel
set_option maxRecDepth 20000 in
theorem ggX6_markReached_X6_spread : GoodIn wsX6_markReached wsX6_spread := goodIn_r _ [8, 9, 10, 1, 11, 12, 13, 14, 15, 16, 17, 18, 19, 20, 21, 22, 23, 24, 25, 26, 27, 28, 29, 30, 31, 32, 33, 34, 35, 36, 37] (by decide +kernel) (by decide +kernel)
set_option maxRecDepth 20000 in
theorem gX6_markReached_X6_spread : GoodIn wsX6_markReached (wsV RX6 129 RX6 yX6_spread wsX6_spread) := goodIn_app (goodIn_of _ (by decide +kernel)) ggX6_markReached_X6_spread
theorem dX6_markReached_0 : decode cX6_markReached 0 = .ok (.iconst 0, 1) := by decide +kernel
theorem dX6_markReached_1 : decode cX6_markReached 1 = .ok (.istore_n 1, 1) := by decide +kernel
theorem dX6_markReached_2 : decode cX6_markReached 2 = .ok (.iload_n 1, 1) := by decide +kernel
theorem dX6_markReached_3 : decode cX6_markReached 3 = .ok (.iconst 4, 1) := by decide +kernel
theorem dX6_markReached_4 : decode cX6_markReached 4 = .ok (.if_icmp .ge 16, 3) := by decide +kernel
theorem dX6_markReached_7 : decode cX6_markReached 7 = .ok (.aload_n 0, 1) := by decide +kernel
theorem dX6_markReached_8 : decode cX6_markReached 8 = .ok (.getfield 58, 3) := by decide +kernel
theorem dX6_markReached_11 : decode cX6_markReached 11 = .ok (.iload_n 1, 1) := by decide +kernel
theorem dX6_markReached_12 : decode cX6_markReached 12 = .ok (.iconst 0, 1) := by decide +kernel
theorem dX6_markReached_13 : decode cX6_markReached 13 = .ok (.bastore, 1) := by decide +kernel
theorem dX6_markReached_14 : decode cX6_markReached 14 = .ok (.iinc 1 1, 3) := by decide +kernel
theorem dX6_markReached_17 : decode cX6_markReached 17 = .ok (.goto (-15), 3) := by decide +kernel
theorem dX6_markReached_20 : decode cX6_markReached 20 = .ok (.iconst 0, 1) := by decide +kernel
theorem dX6_markReached_21 : decode cX6_markReached 21 = .ok (.istore_n 1, 1) := by decide +kernel
theorem dX6_markReached_22 : decode cX6_markReached 22 = .ok (.iload_n 1, 1) := by decide +kernel
theorem dX6_markReached_23 : decode cX6_markReached 23 = .ok (.aload_n 0, 1) := by decide +kernel
theorem dX6_markReached_24 : decode cX6_markReached 24 = .ok (.getfield 19, 3) := by decide +kernel
theorem dX6_markReached_27 : decode cX6_markReached 27 = .ok (.if_icmp .ge 30, 3) := by decide +kernel
theorem dX6_markReached_30 : decode cX6_markReached 30 = .ok (.aload_n 0, 1) := by decide +kernel
theorem dX6_markReached_31 : decode cX6_markReached 31 = .ok (.getfield 32, 3) := by decide +kernel
theorem dX6_markReached_34 : decode cX6_markReached 34 = .ok (.iload_n 1, 1) := by decide +kernel
theorem dX6_markReached_35 : decode cX6_markReached 35 = .ok (.iaload, 1) := by decide +kernel
theorem dX6_markReached_36 : decode cX6_markReached 36 = .ok (.ifCond .lt 15, 3) := by decide +kernel
theorem dX6_markReached_39 : decode cX6_markReached 39 = .ok (.aload_n 0, 1) := by decide +kernel
theorem dX6_markReached_40 : decode cX6_markReached 40 = .ok (.getfield 58, 3) := by decide +kernel
theorem dX6_markReached_43 : decode cX6_markReached 43 = .ok (.aload_n 0, 1) := by decide +kernel
theorem dX6_markReached_44 : decode cX6_markReached 44 = .ok (.getfield 32, 3) := by decide +kernel
theorem dX6_markReached_47 : decode cX6_markReached 47 = .ok (.iload_n 1, 1) := by decide +kernel
theorem dX6_markReached_48 : decode cX6_markReached 48 = .ok (.iaload, 1) := by decide +kernel
theorem dX6_markReached_49 : decode cX6_markReached 49 = .ok (.iconst 1, 1) := by decide +kernel
theorem dX6_markReached_50 : decode cX6_markReached 50 = .ok (.bastore, 1) := by decide +kernel
theorem dX6_markReached_51 : decode cX6_markReached 51 = .ok (.iinc 1 1, 3) := by decide +kernel
theorem dX6_markReached_54 : decode cX6_markReached 54 = .ok (.goto (-32), 3) := by decide +kernel
theorem dX6_markReached_57 : decode cX6_markReached 57 = .ok (.aload_n 0, 1) := by decide +kernel
theorem dX6_markReached_58 : decode cX6_markReached 58 = .ok (.iconst 0, 1) := by decide +kernel
theorem dX6_markReached_59 : decode cX6_markReached 59 = .ok (.invokevirtual 129, 3) := by decide +kernel
theorem dX6_markReached_62 : decode cX6_markReached 62 = .ok (.return_, 1) := by decide +kernel
set_option maxRecDepth 20000 in
theorem ggX6_isBroken_X6_markReached : GoodIn wsX6_isBroken wsX6_markReached := goodIn_r _ [11, 3, 12, 13, 14, 15, 16, 10, 17, 2, 5, 6, 4, 18, 19, 20, 21, 22, 23, 24, 25, 26, 27, 28, 29, 30, 31, 32, 33, 34, 35, 36, 37, 38, 39, 40, 41, 42] (by decide +kernel) (by decide +kernel)
set_option maxRecDepth 20000 in
theorem gX6_isBroken_X6_markReached : GoodIn wsX6_isBroken (wsV RX6 133 RX6 yX6_markReached wsX6_markReached) := goodIn_app (goodIn_of _ (by decide +kernel)) ggX6_isBroken_X6_markReached
set_option maxRecDepth 20000 in
theorem ggX6_isBroken_X6_spread : GoodIn wsX6_isBroken wsX6_spread := goodIn_r _ [17, 2, 5, 3, 6, 4, 18, 19, 20, 21, 22, 23, 24, 25, 26, 27, 28, 29, 30, 31, 32, 33, 34, 35, 36, 37, 38, 39, 40, 41, 42] (by decide +kernel) (by decide +kernel)
set_option maxRecDepth 20000 in
theorem gX6_isBroken_X6_spread : GoodIn wsX6_isBroken (wsV RX6 129 RX6 yX6_spread wsX6_spread) := goodIn_app (goodIn_of _ (by decide +kernel)) ggX6_isBroken_X6_spread
theorem dX6_isBroken_0 : decode cX6_isBroken 0 = .ok (.iload_n 1, 1) := by decide +kernel
theorem dX6_isBroken_1 : decode cX6_isBroken 1 = .ok (.ifCond .eq 8, 3) := by decide +kernel
theorem dX6_isBroken_4 : decode cX6_isBroken 4 = .ok (.iload_n 1, 1) := by decide +kernel
theorem dX6_isBroken_5 : decode cX6_isBroken 5 = .ok (.iconst 3, 1) := by decide +kernel
theorem dX6_isBroken_6 : decode cX6_isBroken 6 = .ok (.if_icmp .ne 80, 3) := by decide +kernel
theorem dX6_isBroken_9 : decode cX6_isBroken 9 = .ok (.aload_n 0, 1) := by decide +kernel
theorem dX6_isBroken_10 : decode cX6_isBroken 10 = .ok (.getfield 79, 3) := by decide +kernel
theorem dX6_isBroken_13 : decode cX6_isBroken 13 = .ok (.ifCond .ne 5, 3) := by decide +kernel
theorem dX6_isBroken_16 : decode cX6_isBroken 16 = .ok (.iconst 0, 1) := by decide +kernel
theorem dX6_isBroken_17 : decode cX6_isBroken 17 = .ok (.ireturn, 1) := by decide +kernel
theorem dX6_isBroken_18 : decode cX6_isBroken 18 = .ok (.aload_n 0, 1) := by decide +kernel
theorem dX6_isBroken_19 : decode cX6_isBroken 19 = .ok (.invokevirtual 133, 3) := by decide +kernel
theorem dX6_isBroken_22 : decode cX6_isBroken 22 = .ok (.iconst 0, 1) := by decide +kernel
theorem dX6_isBroken_23 : decode cX6_isBroken 23 = .ok (.istore_n 2, 1) := by decide +kernel
theorem dX6_isBroken_24 : decode cX6_isBroken 24 = .ok (.iload_n 2, 1) := by decide +kernel
theorem dX6_isBroken_25 : decode cX6_isBroken 25 = .ok (.aload_n 0, 1) := by decide +kernel
theorem dX6_isBroken_26 : decode cX6_isBroken 26 = .ok (.getfield 13, 3) := by decide +kernel
theorem dX6_isBroken_29 : decode cX6_isBroken 29 = .ok (.if_icmp .ge 55, 3) := by decide +kernel
theorem dX6_isBroken_32 : decode cX6_isBroken 32 = .ok (.iload_n 1, 1) := by decide +kernel
theorem dX6_isBroken_33 : decode cX6_isBroken 33 = .ok (.ifCond .ne 24, 3) := by decide +kernel
theorem dX6_isBroken_36 : decode cX6_isBroken 36 = .ok (.aload_n 0, 1) := by decide +kernel
theorem dX6_isBroken_37 : decode cX6_isBroken 37 = .ok (.getfield 58, 3) := by decide +kernel
theorem dX6_isBroken_40 : decode cX6_isBroken 40 = .ok (.iload_n 2, 1) := by decide +kernel
theorem dX6_isBroken_41 : decode cX6_isBroken 41 = .ok (.baload, 1) := by decide +kernel
theorem dX6_isBroken_42 : decode cX6_isBroken 42 = .ok (.ifCond .eq 36, 3) := by decide +kernel
theorem dX6_isBroken_45 : decode cX6_isBroken 45 = .ok (.aload_n 0, 1) := by decide +kernel
theorem dX6_isBroken_46 : decode cX6_isBroken 46 = .ok (.getfield 35, 3) := by decide +kernel
theorem dX6_isBroken_49 : decode cX6_isBroken 49 = .ok (.iload_n 2, 1) := by decide +kernel
theorem dX6_isBroken_50 : decode cX6_isBroken 50 = .ok (.iaload, 1) := by decide +kernel
theorem dX6_isBroken_51 : decode cX6_isBroken 51 = .ok (.ifCond .ne 27, 3) := by decide +kernel
theorem dX6_isBroken_54 : decode cX6_isBroken 54 = .ok (.goto 22, 3) := by decide +kernel
theorem dX6_isBroken_57 : decode cX6_isBroken 57 = .ok (.aload_n 0, 1) := by decide +kernel
theorem dX6_isBroken_58 : decode cX6_isBroken 58 = .ok (.getfield 58, 3) := by decide +kernel
theorem dX6_isBroken_61 : decode cX6_isBroken 61 = .ok (.iload_n 2, 1) := by decide +kernel
theorem dX6_isBroken_62 : decode cX6_isBroken 62 = .ok (.baload, 1) := by decide +kernel
theorem dX6_isBroken_63 : decode cX6_isBroken 63 = .ok (.ifCond .ne 15, 3) := by decide +kernel
theorem dX6_isBroken_66 : decode cX6_isBroken 66 = .ok (.aload_n 0, 1) := by decide +kernel
theorem dX6_isBroken_67 : decode cX6_isBroken 67 = .ok (.getfield 35, 3) := by decide +kernel
theorem dX6_isBroken_70 : decode cX6_isBroken 70 = .ok (.iload_n 2, 1) := by decide +kernel
theorem dX6_isBroken_71 : decode cX6_isBroken 71 = .ok (.iaload, 1) := by decide +kernel
theorem dX6_isBroken_72 : decode cX6_isBroken 72 = .ok (.iconst 2, 1) := by decide +kernel
theorem dX6_isBroken_73 : decode cX6_isBroken 73 = .ok (.if_icmp .ne 5, 3) := by decide +kernel
theorem dX6_isBroken_76 : decode cX6_isBroken 76 = .ok (.iconst 1, 1) := by decide +kernel
theorem dX6_isBroken_77 : decode cX6_isBroken 77 = .ok (.ireturn, 1) := by decide +kernel
theorem dX6_isBroken_78 : decode cX6_isBroken 78 = .ok (.iinc 2 1, 3) := by decide +kernel
theorem dX6_isBroken_81 : decode cX6_isBroken 81 = .ok (.goto (-57), 3) := by decide +kernel
theorem dX6_isBroken_84 : decode cX6_isBroken 84 = .ok (.iconst 0, 1) := by decide +kernel
theorem dX6_isBroken_85 : decode cX6_isBroken 85 = .ok (.ireturn, 1) := by decide +kernel
theorem dX6_isBroken_86 : decode cX6_isBroken 86 = .ok (.iconst 0, 1) := by decide +kernel
theorem dX6_isBroken_87 : decode cX6_isBroken 87 = .ok (.istore_n 2, 1) := by decide +kernel
theorem dX6_isBroken_88 : decode cX6_isBroken 88 = .ok (.iload_n 2, 1) := by decide +kernel
theorem dX6_isBroken_89 : decode cX6_isBroken 89 = .ok (.iconst 4, 1) := by decide +kernel
theorem dX6_isBroken_90 : decode cX6_isBroken 90 = .ok (.if_icmp .ge 43, 3) := by decide +kernel
theorem dX6_isBroken_93 : decode cX6_isBroken 93 = .ok (.aload_n 0, 1) := by decide +kernel
theorem dX6_isBroken_94 : decode cX6_isBroken 94 = .ok (.getfield 58, 3) := by decide +kernel
theorem dX6_isBroken_97 : decode cX6_isBroken 97 = .ok (.iload_n 2, 1) := by decide +kernel
theorem dX6_isBroken_98 : decode cX6_isBroken 98 = .ok (.iload_n 1, 1) := by decide +kernel
theorem dX6_isBroken_99 : decode cX6_isBroken 99 = .ok (.iconst 2, 1) := by decide +kernel
theorem dX6_isBroken_100 : decode cX6_isBroken 100 = .ok (.if_icmp .ne 25, 3) := by decide +kernel
theorem dX6_isBroken_103 : decode cX6_isBroken 103 = .ok (.iload_n 2, 1) := by decide +kernel
theorem dX6_isBroken_104 : decode cX6_isBroken 104 = .ok (.aload_n 0, 1) := by decide +kernel
theorem dX6_isBroken_105 : decode cX6_isBroken 105 = .ok (.getfield 13, 3) := by decide +kernel
theorem dX6_isBroken_108 : decode cX6_isBroken 108 = .ok (.if_icmp .ge 17, 3) := by decide +kernel
theorem dX6_isBroken_111 : decode cX6_isBroken 111 = .ok (.aload_n 0, 1) := by decide +kernel
theorem dX6_isBroken_112 : decode cX6_isBroken 112 = .ok (.getfield 35, 3) := by decide +kernel
theorem dX6_isBroken_115 : decode cX6_isBroken 115 = .ok (.iload_n 2, 1) := by decide +kernel
theorem dX6_isBroken_116 : decode cX6_isBroken 116 = .ok (.iaload, 1) := by decide +kernel
theorem dX6_isBroken_117 : decode cX6_isBroken 117 = .ok (.iconst 1, 1) := by decide +kernel
theorem dX6_isBroken_118 : decode cX6_isBroken 118 = .ok (.if_icmp .ne 7, 3) := by decide +kernel
theorem dX6_isBroken_121 : decode cX6_isBroken 121 = .ok (.iconst 1, 1) := by decide +kernel
theorem dX6_isBroken_122 : decode cX6_isBroken 122 = .ok (.goto 4, 3) := by decide +kernel
theorem dX6_isBroken_125 : decode cX6_isBroken 125 = .ok (.iconst 0, 1) := by decide +kernel
theorem dX6_isBroken_126 : decode cX6_isBroken 126 = .ok (.bastore, 1) := by decide +kernel
theorem dX6_isBroken_127 : decode cX6_isBroken 127 = .ok (.iinc 2 1, 3) := by decide +kernel
theorem dX6_isBroken_130 : decode cX6_isBroken 130 = .ok (.goto (-42), 3) := by decide +kernel
theorem dX6_isBroken_133 : decode cX6_isBroken 133 = .ok (.iload_n 1, 1) := by decide +kernel
theorem dX6_isBroken_134 : decode cX6_isBroken 134 = .ok (.iconst 2, 1) := by decide +kernel
theorem dX6_isBroken_135 : decode cX6_isBroken 135 = .ok (.if_icmp .ne 8, 3) := by decide +kernel
theorem dX6_isBroken_138 : decode cX6_isBroken 138 = .ok (.aload_n 0, 1) := by decide +kernel
theorem dX6_isBroken_139 : decode cX6_isBroken 139 = .ok (.iconst 1, 1) := by decide +kernel
theorem dX6_isBroken_140 : decode cX6_isBroken 140 = .ok (.invokevirtual 129, 3) := by decide +kernel
theorem dX6_isBroken_143 : decode cX6_isBroken 143 = .ok (.iconst 0, 1) := by decide +kernel
theorem dX6_isBroken_144 : decode cX6_isBroken 144 = .ok (.istore_n 2, 1) := by decide +kernel
theorem dX6_isBroken_145 : decode cX6_isBroken 145 = .ok (.iload_n 2, 1) := by decide +kernel
theorem dX6_isBroken_146 : decode cX6_isBroken 146 = .ok (.aload_n 0, 1) := by decide +kernel
theorem dX6_isBroken_147 : decode cX6_isBroken 147 = .ok (.getfield 13, 3) := by decide +kernel
theorem dX6_isBroken_150 : decode cX6_isBroken 150 = .ok (.if_icmp .ge 77, 3) := by decide +kernel
theorem dX6_isBroken_153 : decode cX6_isBroken 153 = .ok (.aload_n 0, 1) := by decide +kernel
theorem dX6_isBroken_154 : decode cX6_isBroken 154 = .ok (.getfield 35, 3) := by decide +kernel
theorem dX6_isBroken_157 : decode cX6_isBroken 157 = .ok (.iload_n 2, 1) := by decide +kernel
theorem dX6_isBroken_158 : decode cX6_isBroken 158 = .ok (.iaload, 1) := by decide +kernel
theorem dX6_isBroken_159 : decode cX6_isBroken 159 = .ok (.iconst 2, 1) := by decide +kernel
theorem dX6_isBroken_160 : decode cX6_isBroken 160 = .ok (.if_icmp .eq 6, 3) := by decide +kernel
theorem dX6_isBroken_163 : decode cX6_isBroken 163 = .ok (.goto 58, 3) := by decide +kernel
theorem dX6_isBroken_166 : decode cX6_isBroken 166 = .ok (.iconst 0, 1) := by decide +kernel
theorem dX6_isBroken_167 : decode cX6_isBroken 167 = .ok (.istore_n 3, 1) := by decide +kernel
theorem dX6_isBroken_168 : decode cX6_isBroken 168 = .ok (.iload_n 3, 1) := by decide +kernel
theorem dX6_isBroken_169 : decode cX6_isBroken 169 = .ok (.aload_n 0, 1) := by decide +kernel
theorem dX6_isBroken_170 : decode cX6_isBroken 170 = .ok (.getfield 16, 3) := by decide +kernel
theorem dX6_isBroken_173 : decode cX6_isBroken 173 = .ok (.if_icmp .ge 48, 3) := by decide +kernel
theorem dX6_isBroken_176 : decode cX6_isBroken 176 = .ok (.aload_n 0, 1) := by decide +kernel
theorem dX6_isBroken_177 : decode cX6_isBroken 177 = .ok (.getfield 29, 3) := by decide +kernel
theorem dX6_isBroken_180 : decode cX6_isBroken 180 = .ok (.iconst 2, 1) := by decide +kernel
theorem dX6_isBroken_181 : decode cX6_isBroken 181 = .ok (.iload_n 2, 1) := by decide +kernel
theorem dX6_isBroken_182 : decode cX6_isBroken 182 = .ok (.imul, 1) := by decide +kernel
theorem dX6_isBroken_183 : decode cX6_isBroken 183 = .ok (.iload_n 3, 1) := by decide +kernel
theorem dX6_isBroken_184 : decode cX6_isBroken 184 = .ok (.iadd, 1) := by decide +kernel
theorem dX6_isBroken_185 : decode cX6_isBroken 185 = .ok (.iaload, 1) := by decide +kernel
theorem dX6_isBroken_186 : decode cX6_isBroken 186 = .ok (.istore 4, 2) := by decide +kernel
theorem dX6_isBroken_188 : decode cX6_isBroken 188 = .ok (.iload 4, 2) := by decide +kernel
theorem dX6_isBroken_190 : decode cX6_isBroken 190 = .ok (.ifCond .lt 25, 3) := by decide +kernel
theorem dX6_isBroken_193 : decode cX6_isBroken 193 = .ok (.aload_n 0, 1) := by decide +kernel
theorem dX6_isBroken_194 : decode cX6_isBroken 194 = .ok (.getfield 35, 3) := by decide +kernel
theorem dX6_isBroken_197 : decode cX6_isBroken 197 = .ok (.iload 4, 2) := by decide +kernel
theorem dX6_isBroken_199 : decode cX6_isBroken 199 = .ok (.iaload, 1) := by decide +kernel
theorem dX6_isBroken_200 : decode cX6_isBroken 200 = .ok (.ifCond .ne 15, 3) := by decide +kernel
theorem dX6_isBroken_203 : decode cX6_isBroken 203 = .ok (.aload_n 0, 1) := by decide +kernel
theorem dX6_isBroken_204 : decode cX6_isBroken 204 = .ok (.getfield 58, 3) := by decide +kernel
theorem dX6_isBroken_207 : decode cX6_isBroken 207 = .ok (.iload 4, 2) := by decide +kernel
theorem dX6_isBroken_209 : decode cX6_isBroken 209 = .ok (.baload, 1) := by decide +kernel
theorem dX6_isBroken_210 : decode cX6_isBroken 210 = .ok (.ifCond .ne 5, 3) := by decide +kernel
theorem dX6_isBroken_213 : decode cX6_isBroken 213 = .ok (.iconst 1, 1) := by decide +kernel
theorem dX6_isBroken_214 : decode cX6_isBroken 214 = .ok (.ireturn, 1) := by decide +kernel
theorem dX6_isBroken_215 : decode cX6_isBroken 215 = .ok (.iinc 3 1, 3) := by decide +kernel
theorem dX6_isBroken_218 : decode cX6_isBroken 218 = .ok (.goto (-50), 3) := by decide +kernel
theorem dX6_isBroken_221 : decode cX6_isBroken 221 = .ok (.iinc 2 1, 3) := by decide +kernel
theorem dX6_isBroken_224 : decode cX6_isBroken 224 = .ok (.goto (-79), 3) := by decide +kernel
theorem dX6_isBroken_227 : decode cX6_isBroken 227 = .ok (.iconst 0, 1) := by decide +kernel
theorem dX6_isBroken_228 : decode cX6_isBroken 228 = .ok (.ireturn, 1) := by decide +kernel
theorem dX6_slotOf_0 : decode cX6_slotOf 0 = .ok (.lload_n 1, 1) := by decide +kernel
theorem dX6_slotOf_1 : decode cX6_slotOf 1 = .ok (.ldc2_w 136, 3) := by decide +kernel
theorem dX6_slotOf_4 : decode cX6_slotOf 4 = .ok (.lrem, 1) := by decide +kernel
theorem dX6_slotOf_5 : decode cX6_slotOf 5 = .ok (.l2i, 1) := by decide +kernel
theorem dX6_slotOf_6 : decode cX6_slotOf 6 = .ok (.istore_n 3, 1) := by decide +kernel
theorem dX6_slotOf_7 : decode cX6_slotOf 7 = .ok (.aload_n 0, 1) := by decide +kernel
theorem dX6_slotOf_8 : decode cX6_slotOf 8 = .ok (.getfield 52, 3) := by decide +kernel
theorem dX6_slotOf_11 : decode cX6_slotOf 11 = .ok (.iload_n 3, 1) := by decide +kernel
theorem dX6_slotOf_12 : decode cX6_slotOf 12 = .ok (.iaload, 1) := by decide +kernel
theorem dX6_slotOf_13 : decode cX6_slotOf 13 = .ok (.ifCond .le 31, 3) := by decide +kernel
theorem dX6_slotOf_16 : decode cX6_slotOf 16 = .ok (.aload_n 0, 1) := by decide +kernel
theorem dX6_slotOf_17 : decode cX6_slotOf 17 = .ok (.getfield 41, 3) := by decide +kernel
theorem dX6_slotOf_20 : decode cX6_slotOf 20 = .ok (.aload_n 0, 1) := by decide +kernel
theorem dX6_slotOf_21 : decode cX6_slotOf 21 = .ok (.getfield 52, 3) := by decide +kernel
theorem dX6_slotOf_24 : decode cX6_slotOf 24 = .ok (.iload_n 3, 1) := by decide +kernel
theorem dX6_slotOf_25 : decode cX6_slotOf 25 = .ok (.iaload, 1) := by decide +kernel
theorem dX6_slotOf_26 : decode cX6_slotOf 26 = .ok (.iconst 1, 1) := by decide +kernel
theorem dX6_slotOf_27 : decode cX6_slotOf 27 = .ok (.isub, 1) := by decide +kernel
theorem dX6_slotOf_28 : decode cX6_slotOf 28 = .ok (.laload, 1) := by decide +kernel
theorem dX6_slotOf_29 : decode cX6_slotOf 29 = .ok (.lload_n 1, 1) := by decide +kernel
theorem dX6_slotOf_30 : decode cX6_slotOf 30 = .ok (.lcmp, 1) := by decide +kernel
theorem dX6_slotOf_31 : decode cX6_slotOf 31 = .ok (.ifCond .eq 13, 3) := by decide +kernel
theorem dX6_slotOf_34 : decode cX6_slotOf 34 = .ok (.iload_n 3, 1) := by decide +kernel
theorem dX6_slotOf_35 : decode cX6_slotOf 35 = .ok (.iconst 1, 1) := by decide +kernel
theorem dX6_slotOf_36 : decode cX6_slotOf 36 = .ok (.iadd, 1) := by decide +kernel
theorem dX6_slotOf_37 : decode cX6_slotOf 37 = .ok (.ldc 138, 2) := by decide +kernel
theorem dX6_slotOf_39 : decode cX6_slotOf 39 = .ok (.iand, 1) := by decide +kernel
theorem dX6_slotOf_40 : decode cX6_slotOf 40 = .ok (.istore_n 3, 1) := by decide +kernel
theorem dX6_slotOf_41 : decode cX6_slotOf 41 = .ok (.goto (-34), 3) := by decide +kernel
theorem dX6_slotOf_44 : decode cX6_slotOf 44 = .ok (.iload_n 3, 1) := by decide +kernel
theorem dX6_slotOf_45 : decode cX6_slotOf 45 = .ok (.ireturn, 1) := by decide +kernel
theorem dX6_tell_0 : decode cX6_tell 0 = .ok (.aload_n 0, 1) := by decide +kernel
theorem dX6_tell_1 : decode cX6_tell 1 = .ok (.iconst 0, 1) := by decide +kernel
theorem dX6_tell_2 : decode cX6_tell 2 = .ok (.putfield 139, 3) := by decide +kernel
theorem dX6_tell_5 : decode cX6_tell 5 = .ok (.iload_n 1, 1) := by decide +kernel
theorem dX6_tell_6 : decode cX6_tell 6 = .ok (.istore_n 2, 1) := by decide +kernel
theorem dX6_tell_7 : decode cX6_tell 7 = .ok (.aload_n 0, 1) := by decide +kernel
theorem dX6_tell_8 : decode cX6_tell 8 = .ok (.getfield 45, 3) := by decide +kernel
theorem dX6_tell_11 : decode cX6_tell 11 = .ok (.iload_n 2, 1) := by decide +kernel
theorem dX6_tell_12 : decode cX6_tell 12 = .ok (.iaload, 1) := by decide +kernel
theorem dX6_tell_13 : decode cX6_tell 13 = .ok (.ifCond .lt 23, 3) := by decide +kernel
theorem dX6_tell_16 : decode cX6_tell 16 = .ok (.aload_n 0, 1) := by decide +kernel
theorem dX6_tell_17 : decode cX6_tell 17 = .ok (.dup, 1) := by decide +kernel
theorem dX6_tell_18 : decode cX6_tell 18 = .ok (.getfield 139, 3) := by decide +kernel
theorem dX6_tell_21 : decode cX6_tell 21 = .ok (.iconst 1, 1) := by decide +kernel
theorem dX6_tell_22 : decode cX6_tell 22 = .ok (.iadd, 1) := by decide +kernel
theorem dX6_tell_23 : decode cX6_tell 23 = .ok (.putfield 139, 3) := by decide +kernel
theorem dX6_tell_26 : decode cX6_tell 26 = .ok (.aload_n 0, 1) := by decide +kernel
theorem dX6_tell_27 : decode cX6_tell 27 = .ok (.getfield 45, 3) := by decide +kernel
theorem dX6_tell_30 : decode cX6_tell 30 = .ok (.iload_n 2, 1) := by decide +kernel
theorem dX6_tell_31 : decode cX6_tell 31 = .ok (.iaload, 1) := by decide +kernel
theorem dX6_tell_32 : decode cX6_tell 32 = .ok (.istore_n 2, 1) := by decide +kernel
theorem dX6_tell_33 : decode cX6_tell 33 = .ok (.goto (-26), 3) := by decide +kernel
theorem dX6_tell_36 : decode cX6_tell 36 = .ok (.aload_n 0, 1) := by decide +kernel
theorem dX6_tell_37 : decode cX6_tell 37 = .ok (.getfield 139, 3) := by decide +kernel
theorem dX6_tell_40 : decode cX6_tell 40 = .ok (.istore_n 2, 1) := by decide +kernel
theorem dX6_tell_41 : decode cX6_tell 41 = .ok (.iload_n 1, 1) := by decide +kernel
theorem dX6_tell_42 : decode cX6_tell 42 = .ok (.istore_n 3, 1) := by decide +kernel
theorem dX6_tell_43 : decode cX6_tell 43 = .ok (.aload_n 0, 1) := by decide +kernel
theorem dX6_tell_44 : decode cX6_tell 44 = .ok (.getfield 45, 3) := by decide +kernel
theorem dX6_tell_47 : decode cX6_tell 47 = .ok (.iload_n 3, 1) := by decide +kernel
theorem dX6_tell_48 : decode cX6_tell 48 = .ok (.iaload, 1) := by decide +kernel
theorem dX6_tell_49 : decode cX6_tell 49 = .ok (.ifCond .lt 28, 3) := by decide +kernel
theorem dX6_tell_52 : decode cX6_tell 52 = .ok (.iinc 2 (-1), 3) := by decide +kernel
theorem dX6_tell_55 : decode cX6_tell 55 = .ok (.aload_n 0, 1) := by decide +kernel
theorem dX6_tell_56 : decode cX6_tell 56 = .ok (.getfield 55, 3) := by decide +kernel
theorem dX6_tell_59 : decode cX6_tell 59 = .ok (.iload_n 2, 1) := by decide +kernel
theorem dX6_tell_60 : decode cX6_tell 60 = .ok (.aload_n 0, 1) := by decide +kernel
theorem dX6_tell_61 : decode cX6_tell 61 = .ok (.getfield 48, 3) := by decide +kernel
theorem dX6_tell_64 : decode cX6_tell 64 = .ok (.iload_n 3, 1) := by decide +kernel
theorem dX6_tell_65 : decode cX6_tell 65 = .ok (.iaload, 1) := by decide +kernel
theorem dX6_tell_66 : decode cX6_tell 66 = .ok (.iastore, 1) := by decide +kernel
theorem dX6_tell_67 : decode cX6_tell 67 = .ok (.aload_n 0, 1) := by decide +kernel
theorem dX6_tell_68 : decode cX6_tell 68 = .ok (.getfield 45, 3) := by decide +kernel
theorem dX6_tell_71 : decode cX6_tell 71 = .ok (.iload_n 3, 1) := by decide +kernel
theorem dX6_tell_72 : decode cX6_tell 72 = .ok (.iaload, 1) := by decide +kernel
theorem dX6_tell_73 : decode cX6_tell 73 = .ok (.istore_n 3, 1) := by decide +kernel
theorem dX6_tell_74 : decode cX6_tell 74 = .ok (.goto (-31), 3) := by decide +kernel
theorem dX6_tell_77 : decode cX6_tell 77 = .ok (.return_, 1) := by decide +kernel
set_option maxRecDepth 20000 in
theorem ggX6_come_X6_number : GoodIn wsX6_come wsX6_number := goodIn_r _ [10, 11, 12, 13, 14, 15, 16, 17, 18, 19, 20, 21, 44, 45, 46, 47, 48, 49, 50, 51, 52, 53, 54, 55, 56, 57, 58, 59, 60, 61, 62, 63, 64, 65, 66, 67, 68] (by decide +kernel) (by decide +kernel)
set_option maxRecDepth 20000 in
theorem gX6_come_X6_number : GoodIn wsX6_come (wsV RX6 83 RX6 yX6_number wsX6_number) := goodIn_app (goodIn_of _ (by decide +kernel)) ggX6_come_X6_number
set_option maxRecDepth 20000 in
theorem ggX6_come_X6_slotOf : GoodIn wsX6_come wsX6_slotOf := goodIn_r _ [25, 26, 1, 3, 27, 44, 45, 46, 47, 48, 49, 50, 51, 52, 53, 54, 55, 56, 57, 58, 59, 60, 61, 62, 63, 64, 65, 66, 67, 68] (by decide +kernel) (by decide +kernel)
set_option maxRecDepth 20000 in
theorem gX6_come_X6_slotOf : GoodIn wsX6_come (wsV RX6 142 RX6 yX6_slotOf wsX6_slotOf) := goodIn_app (goodIn_of _ (by decide +kernel)) ggX6_come_X6_slotOf
set_option maxRecDepth 20000 in
theorem ggX6_come_X6_isBroken : GoodIn wsX6_come wsX6_isBroken := goodIn_r _ [31, 11, 32, 33, 19, 34, 21, 35, 36, 37, 9, 38, 39, 17, 40, 41, 42, 43, 44, 45, 46, 47, 48, 49, 50, 51, 52, 53, 54, 55, 56, 57, 58, 59, 60, 61, 62, 63, 64, 65, 66, 67, 68] (by decide +kernel) (by decide +kernel)
set_option maxRecDepth 20000 in
theorem gX6_come_X6_isBroken : GoodIn wsX6_come (wsV RX6 149 RX6 yX6_isBroken wsX6_isBroken) := goodIn_app (goodIn_of _ (by decide +kernel)) ggX6_come_X6_isBroken
theorem dX6_come_0 : decode cX6_come 0 = .ok (.aload_n 0, 1) := by decide +kernel
theorem dX6_come_1 : decode cX6_come 1 = .ok (.invokevirtual 83, 3) := by decide +kernel
theorem dX6_come_4 : decode cX6_come 4 = .ok (.lstore 4, 2) := by decide +kernel
theorem dX6_come_6 : decode cX6_come 6 = .ok (.aload_n 0, 1) := by decide +kernel
theorem dX6_come_7 : decode cX6_come 7 = .ok (.lload 4, 2) := by decide +kernel
theorem dX6_come_9 : decode cX6_come 9 = .ok (.invokevirtual 142, 3) := by decide +kernel
theorem dX6_come_12 : decode cX6_come 12 = .ok (.istore 6, 2) := by decide +kernel
theorem dX6_come_14 : decode cX6_come 14 = .ok (.aload_n 0, 1) := by decide +kernel
theorem dX6_come_15 : decode cX6_come 15 = .ok (.getfield 52, 3) := by decide +kernel
theorem dX6_come_18 : decode cX6_come 18 = .ok (.iload 6, 2) := by decide +kernel
theorem dX6_come_20 : decode cX6_come 20 = .ok (.iaload, 1) := by decide +kernel
theorem dX6_come_21 : decode cX6_come 21 = .ok (.ifCond .le 5, 3) := by decide +kernel
theorem dX6_come_24 : decode cX6_come 24 = .ok (.iconst 0, 1) := by decide +kernel
theorem dX6_come_25 : decode cX6_come 25 = .ok (.ireturn, 1) := by decide +kernel
theorem dX6_come_26 : decode cX6_come 26 = .ok (.aload_n 0, 1) := by decide +kernel
theorem dX6_come_27 : decode cX6_come 27 = .ok (.getfield 146, 3) := by decide +kernel
theorem dX6_come_30 : decode cX6_come 30 = .ok (.sipush 20000, 3) := by decide +kernel
theorem dX6_come_33 : decode cX6_come 33 = .ok (.if_icmp .ne 5, 3) := by decide +kernel
theorem dX6_come_36 : decode cX6_come 36 = .ok (.iconst (-1), 1) := by decide +kernel
theorem dX6_come_37 : decode cX6_come 37 = .ok (.ireturn, 1) := by decide +kernel
theorem dX6_come_38 : decode cX6_come 38 = .ok (.aload_n 0, 1) := by decide +kernel
theorem dX6_come_39 : decode cX6_come 39 = .ok (.getfield 41, 3) := by decide +kernel
theorem dX6_come_42 : decode cX6_come 42 = .ok (.aload_n 0, 1) := by decide +kernel
theorem dX6_come_43 : decode cX6_come 43 = .ok (.getfield 146, 3) := by decide +kernel
theorem dX6_come_46 : decode cX6_come 46 = .ok (.lload 4, 2) := by decide +kernel
theorem dX6_come_48 : decode cX6_come 48 = .ok (.lastore, 1) := by decide +kernel
theorem dX6_come_49 : decode cX6_come 49 = .ok (.aload_n 0, 1) := by decide +kernel
theorem dX6_come_50 : decode cX6_come 50 = .ok (.getfield 45, 3) := by decide +kernel
theorem dX6_come_53 : decode cX6_come 53 = .ok (.aload_n 0, 1) := by decide +kernel
theorem dX6_come_54 : decode cX6_come 54 = .ok (.getfield 146, 3) := by decide +kernel
theorem dX6_come_57 : decode cX6_come 57 = .ok (.iload_n 1, 1) := by decide +kernel
theorem dX6_come_58 : decode cX6_come 58 = .ok (.iastore, 1) := by decide +kernel
theorem dX6_come_59 : decode cX6_come 59 = .ok (.aload_n 0, 1) := by decide +kernel
theorem dX6_come_60 : decode cX6_come 60 = .ok (.getfield 48, 3) := by decide +kernel
theorem dX6_come_63 : decode cX6_come 63 = .ok (.aload_n 0, 1) := by decide +kernel
theorem dX6_come_64 : decode cX6_come 64 = .ok (.getfield 146, 3) := by decide +kernel
theorem dX6_come_67 : decode cX6_come 67 = .ok (.iload_n 2, 1) := by decide +kernel
theorem dX6_come_68 : decode cX6_come 68 = .ok (.iastore, 1) := by decide +kernel
theorem dX6_come_69 : decode cX6_come 69 = .ok (.aload_n 0, 1) := by decide +kernel
theorem dX6_come_70 : decode cX6_come 70 = .ok (.dup, 1) := by decide +kernel
theorem dX6_come_71 : decode cX6_come 71 = .ok (.getfield 146, 3) := by decide +kernel
theorem dX6_come_74 : decode cX6_come 74 = .ok (.iconst 1, 1) := by decide +kernel
theorem dX6_come_75 : decode cX6_come 75 = .ok (.iadd, 1) := by decide +kernel
theorem dX6_come_76 : decode cX6_come 76 = .ok (.putfield 146, 3) := by decide +kernel
theorem dX6_come_79 : decode cX6_come 79 = .ok (.aload_n 0, 1) := by decide +kernel
theorem dX6_come_80 : decode cX6_come 80 = .ok (.getfield 52, 3) := by decide +kernel
theorem dX6_come_83 : decode cX6_come 83 = .ok (.iload 6, 2) := by decide +kernel
theorem dX6_come_85 : decode cX6_come 85 = .ok (.aload_n 0, 1) := by decide +kernel
theorem dX6_come_86 : decode cX6_come 86 = .ok (.getfield 146, 3) := by decide +kernel
theorem dX6_come_89 : decode cX6_come 89 = .ok (.iastore, 1) := by decide +kernel
theorem dX6_come_90 : decode cX6_come 90 = .ok (.aload_n 0, 1) := by decide +kernel
theorem dX6_come_91 : decode cX6_come 91 = .ok (.iload_n 3, 1) := by decide +kernel
theorem dX6_come_92 : decode cX6_come 92 = .ok (.invokevirtual 149, 3) := by decide +kernel
theorem dX6_come_95 : decode cX6_come 95 = .ok (.ifCond .eq 7, 3) := by decide +kernel
theorem dX6_come_98 : decode cX6_come 98 = .ok (.iconst 1, 1) := by decide +kernel
theorem dX6_come_99 : decode cX6_come 99 = .ok (.goto 4, 3) := by decide +kernel
theorem dX6_come_102 : decode cX6_come 102 = .ok (.iconst 0, 1) := by decide +kernel
theorem dX6_come_103 : decode cX6_come 103 = .ok (.ireturn, 1) := by decide +kernel
set_option maxRecDepth 20000 in
theorem ggX6_find_X6_fails : GoodIn wsX6_find wsX6_fails := goodIn_r _ [11, 12, 113, 114, 115, 116, 117, 118, 119, 120, 121, 122, 123, 124, 125, 126, 127, 128, 129, 130, 131, 132, 133, 134, 135, 136, 137] (by decide +kernel) (by decide +kernel)
set_option maxRecDepth 20000 in
theorem gX6_find_X6_fails : GoodIn wsX6_find (wsV RX6 152 RX6 yX6_fails wsX6_fails) := goodIn_app (goodIn_of _ (by decide +kernel)) ggX6_find_X6_fails
set_option maxRecDepth 20000 in
theorem ggX6_find_X6_first : GoodIn wsX6_find wsX6_first := goodIn_r _ [16, 17, 18, 19, 20, 21, 22, 23, 24, 25, 26, 27, 28, 29, 10, 30, 31, 32, 33, 34, 113, 114, 115, 116, 117, 118, 119, 120, 121, 122, 123, 124, 125, 126, 127, 128, 129, 130, 131, 132, 133, 134, 135, 136, 137] (by decide +kernel) (by decide +kernel)
set_option maxRecDepth 20000 in
theorem gX6_find_X6_first : GoodIn wsX6_find (wsV RX6 62 RX6 yX6_first wsX6_first) := goodIn_app (goodIn_of _ (by decide +kernel)) ggX6_find_X6_first
set_option maxRecDepth 20000 in
theorem ggX6_find_X6_come : GoodIn wsX6_find wsX6_come := goodIn_r _ [38, 2, 3, 5, 39, 40, 27, 28, 29, 10, 30, 26, 31, 25, 32, 23, 33, 19, 34, 21, 22, 17, 41, 42, 43, 44, 45, 46, 47, 48, 49, 50, 51, 52, 53, 54, 55, 56, 57, 58, 59, 60, 61, 62, 113, 114, 115, 116, 117, 118, 119, 120, 121, 122, 123, 124, 125, 126, 127, 128, 129, 130, 131, 132, 133, 134, 135, 136, 137] (by decide +kernel) (by decide +kernel)
set_option maxRecDepth 20000 in
theorem gX6_find_X6_come : GoodIn wsX6_find (wsV RX6 155 RX6 yX6_come wsX6_come) := goodIn_app (goodIn_of _ (by decide +kernel)) ggX6_find_X6_come
set_option maxRecDepth 20000 in
theorem ggX6_find_X6_take : GoodIn wsX6_find wsX6_take := goodIn_r _ [66, 17, 33, 22, 34, 21, 19, 32, 23, 31, 25, 26, 113, 114, 115, 116, 117, 118, 119, 120, 121, 122, 123, 124, 125, 126, 127, 128, 129, 130, 131, 132, 133, 134, 135, 136, 137] (by decide +kernel) (by decide +kernel)
set_option maxRecDepth 20000 in
theorem gX6_find_X6_take : GoodIn wsX6_find (wsV RX6 159 RX6 yX6_take wsX6_take) := goodIn_app (goodIn_of _ (by decide +kernel)) ggX6_find_X6_take
set_option maxRecDepth 20000 in
theorem ggX6_find_X6_canDo : GoodIn wsX6_find wsX6_canDo := goodIn_r _ [70, 26, 23, 58, 25, 53, 19, 71, 72, 73, 10, 74, 51, 21, 75, 76, 77, 78, 113, 114, 115, 116, 117, 118, 119, 120, 121, 122, 123, 124, 125, 126, 127, 128, 129, 130, 131, 132, 133, 134, 135, 136, 137] (by decide +kernel) (by decide +kernel)
set_option maxRecDepth 20000 in
theorem gX6_find_X6_canDo : GoodIn wsX6_find (wsV RX6 126 RX6 yX6_canDo wsX6_canDo) := goodIn_app (goodIn_of _ (by decide +kernel)) ggX6_find_X6_canDo
set_option maxRecDepth 20000 in
theorem ggX6_find_X6_act0 : GoodIn wsX6_find wsX6_act0 := goodIn_r _ [82, 25, 19, 17, 83, 84, 85, 10, 86, 23, 58, 22, 53, 21, 87, 88, 89, 90, 71, 72, 73, 74, 51, 91, 92, 93, 94, 26, 95, 96, 97, 98, 99, 100, 101, 102, 103, 104, 105, 106, 107, 113, 114, 115, 116, 117, 118, 119, 120, 121, 122, 123, 124, 125, 126, 127, 128, 129, 130, 131, 132, 133, 134, 135, 136, 137] (by decide +kernel) (by decide +kernel)
set_option maxRecDepth 20000 in
theorem gX6_find_X6_act0 : GoodIn wsX6_find (wsV RX6 163 RX6 yX6_act0 wsX6_act0) := goodIn_app (goodIn_of _ (by decide +kernel)) ggX6_find_X6_act0
set_option maxRecDepth 20000 in
theorem ggX6_find_X6_tell : GoodIn wsX6_find wsX6_tell := goodIn_r _ [111, 4, 39, 112, 40, 113, 114, 115, 116, 117, 118, 119, 120, 121, 122, 123, 124, 125, 126, 127, 128, 129, 130, 131, 132, 133, 134, 135, 136, 137] (by decide +kernel) (by decide +kernel)
set_option maxRecDepth 20000 in
theorem gX6_find_X6_tell : GoodIn wsX6_find (wsV RX6 169 RX6 yX6_tell wsX6_tell) := goodIn_app (goodIn_of _ (by decide +kernel)) ggX6_find_X6_tell
theorem dX6_find_0 : decode cX6_find 0 = .ok (.aload_n 0, 1) := by decide +kernel
theorem dX6_find_1 : decode cX6_find 1 = .ok (.iload_n 1, 1) := by decide +kernel
theorem dX6_find_2 : decode cX6_find 2 = .ok (.ifCond .lt 8, 3) := by decide +kernel
theorem dX6_find_5 : decode cX6_find 5 = .ok (.iload_n 1, 1) := by decide +kernel
theorem dX6_find_6 : decode cX6_find 6 = .ok (.iconst 3, 1) := by decide +kernel
theorem dX6_find_7 : decode cX6_find 7 = .ok (.if_icmp .le 7, 3) := by decide +kernel
theorem dX6_find_10 : decode cX6_find 10 = .ok (.iconst 1, 1) := by decide +kernel
theorem dX6_find_11 : decode cX6_find 11 = .ok (.goto 4, 3) := by decide +kernel
theorem dX6_find_14 : decode cX6_find 14 = .ok (.iconst 0, 1) := by decide +kernel
theorem dX6_find_15 : decode cX6_find 15 = .ok (.invokevirtual 152, 3) := by decide +kernel
theorem dX6_find_18 : decode cX6_find 18 = .ok (.ifCond .eq 5, 3) := by decide +kernel
theorem dX6_find_21 : decode cX6_find 21 = .ok (.iconst 0, 1) := by decide +kernel
theorem dX6_find_22 : decode cX6_find 22 = .ok (.ireturn, 1) := by decide +kernel
theorem dX6_find_23 : decode cX6_find 23 = .ok (.iconst 0, 1) := by decide +kernel
theorem dX6_find_24 : decode cX6_find 24 = .ok (.istore_n 2, 1) := by decide +kernel
theorem dX6_find_25 : decode cX6_find 25 = .ok (.iload_n 2, 1) := by decide +kernel
theorem dX6_find_26 : decode cX6_find 26 = .ok (.ldc 51, 2) := by decide +kernel
theorem dX6_find_28 : decode cX6_find 28 = .ok (.if_icmp .ge 16, 3) := by decide +kernel
theorem dX6_find_31 : decode cX6_find 31 = .ok (.aload_n 0, 1) := by decide +kernel
theorem dX6_find_32 : decode cX6_find 32 = .ok (.getfield 52, 3) := by decide +kernel
theorem dX6_find_35 : decode cX6_find 35 = .ok (.iload_n 2, 1) := by decide +kernel
theorem dX6_find_36 : decode cX6_find 36 = .ok (.iconst 0, 1) := by decide +kernel
theorem dX6_find_37 : decode cX6_find 37 = .ok (.iastore, 1) := by decide +kernel
theorem dX6_find_38 : decode cX6_find 38 = .ok (.iinc 2 1, 3) := by decide +kernel
theorem dX6_find_41 : decode cX6_find 41 = .ok (.goto (-16), 3) := by decide +kernel
theorem dX6_find_44 : decode cX6_find 44 = .ok (.aload_n 0, 1) := by decide +kernel
theorem dX6_find_45 : decode cX6_find 45 = .ok (.iconst 0, 1) := by decide +kernel
theorem dX6_find_46 : decode cX6_find 46 = .ok (.putfield 146, 3) := by decide +kernel
theorem dX6_find_49 : decode cX6_find 49 = .ok (.aload_n 0, 1) := by decide +kernel
theorem dX6_find_50 : decode cX6_find 50 = .ok (.iconst 0, 1) := by decide +kernel
theorem dX6_find_51 : decode cX6_find 51 = .ok (.putfield 139, 3) := by decide +kernel
theorem dX6_find_54 : decode cX6_find 54 = .ok (.aload_n 0, 1) := by decide +kernel
theorem dX6_find_55 : decode cX6_find 55 = .ok (.invokevirtual 62, 3) := by decide +kernel
theorem dX6_find_58 : decode cX6_find 58 = .ok (.lstore_n 2, 1) := by decide +kernel
theorem dX6_find_59 : decode cX6_find 59 = .ok (.aload_n 0, 1) := by decide +kernel
theorem dX6_find_60 : decode cX6_find 60 = .ok (.iconst (-1), 1) := by decide +kernel
theorem dX6_find_61 : decode cX6_find 61 = .ok (.iconst (-1), 1) := by decide +kernel
theorem dX6_find_62 : decode cX6_find 62 = .ok (.iload_n 1, 1) := by decide +kernel
theorem dX6_find_63 : decode cX6_find 63 = .ok (.invokevirtual 155, 3) := by decide +kernel
theorem dX6_find_66 : decode cX6_find 66 = .ok (.istore 4, 2) := by decide +kernel
theorem dX6_find_68 : decode cX6_find 68 = .ok (.iconst 0, 1) := by decide +kernel
theorem dX6_find_69 : decode cX6_find 69 = .ok (.istore 5, 2) := by decide +kernel
theorem dX6_find_71 : decode cX6_find 71 = .ok (.iload 5, 2) := by decide +kernel
theorem dX6_find_73 : decode cX6_find 73 = .ok (.aload_n 0, 1) := by decide +kernel
theorem dX6_find_74 : decode cX6_find 74 = .ok (.getfield 146, 3) := by decide +kernel
theorem dX6_find_77 : decode cX6_find 77 = .ok (.if_icmp .ge 75, 3) := by decide +kernel
theorem dX6_find_80 : decode cX6_find 80 = .ok (.iload 4, 2) := by decide +kernel
theorem dX6_find_82 : decode cX6_find 82 = .ok (.ifCond .ne 70, 3) := by decide +kernel
theorem dX6_find_85 : decode cX6_find 85 = .ok (.iconst 0, 1) := by decide +kernel
theorem dX6_find_86 : decode cX6_find 86 = .ok (.istore 6, 2) := by decide +kernel
theorem dX6_find_88 : decode cX6_find 88 = .ok (.iload 6, 2) := by decide +kernel
theorem dX6_find_90 : decode cX6_find 90 = .ok (.bipush 50, 2) := by decide +kernel
theorem dX6_find_92 : decode cX6_find 92 = .ok (.if_icmp .ge 54, 3) := by decide +kernel
theorem dX6_find_95 : decode cX6_find 95 = .ok (.iload 4, 2) := by decide +kernel
theorem dX6_find_97 : decode cX6_find 97 = .ok (.ifCond .ne 49, 3) := by decide +kernel
theorem dX6_find_100 : decode cX6_find 100 = .ok (.aload_n 0, 1) := by decide +kernel
theorem dX6_find_101 : decode cX6_find 101 = .ok (.aload_n 0, 1) := by decide +kernel
theorem dX6_find_102 : decode cX6_find 102 = .ok (.getfield 41, 3) := by decide +kernel
theorem dX6_find_105 : decode cX6_find 105 = .ok (.iload 5, 2) := by decide +kernel
theorem dX6_find_107 : decode cX6_find 107 = .ok (.laload, 1) := by decide +kernel
theorem dX6_find_108 : decode cX6_find 108 = .ok (.invokevirtual 159, 3) := by decide +kernel
theorem dX6_find_111 : decode cX6_find 111 = .ok (.aload_n 0, 1) := by decide +kernel
theorem dX6_find_112 : decode cX6_find 112 = .ok (.iload 6, 2) := by decide +kernel
theorem dX6_find_114 : decode cX6_find 114 = .ok (.invokevirtual 126, 3) := by decide +kernel
theorem dX6_find_117 : decode cX6_find 117 = .ok (.ifCond .ne 6, 3) := by decide +kernel
theorem dX6_find_120 : decode cX6_find 120 = .ok (.goto 20, 3) := by decide +kernel
theorem dX6_find_123 : decode cX6_find 123 = .ok (.aload_n 0, 1) := by decide +kernel
theorem dX6_find_124 : decode cX6_find 124 = .ok (.iload 6, 2) := by decide +kernel
theorem dX6_find_126 : decode cX6_find 126 = .ok (.invokevirtual 163, 3) := by decide +kernel
theorem dX6_find_129 : decode cX6_find 129 = .ok (.aload_n 0, 1) := by decide +kernel
theorem dX6_find_130 : decode cX6_find 130 = .ok (.iload 5, 2) := by decide +kernel
theorem dX6_find_132 : decode cX6_find 132 = .ok (.iload 6, 2) := by decide +kernel
theorem dX6_find_134 : decode cX6_find 134 = .ok (.iload_n 1, 1) := by decide +kernel
theorem dX6_find_135 : decode cX6_find 135 = .ok (.invokevirtual 155, 3) := by decide +kernel
theorem dX6_find_138 : decode cX6_find 138 = .ok (.istore 4, 2) := by decide +kernel
theorem dX6_find_140 : decode cX6_find 140 = .ok (.iinc 6 1, 3) := by decide +kernel
theorem dX6_find_143 : decode cX6_find 143 = .ok (.goto (-55), 3) := by decide +kernel
theorem dX6_find_146 : decode cX6_find 146 = .ok (.iinc 5 1, 3) := by decide +kernel
theorem dX6_find_149 : decode cX6_find 149 = .ok (.goto (-78), 3) := by decide +kernel
theorem dX6_find_152 : decode cX6_find 152 = .ok (.aload_n 0, 1) := by decide +kernel
theorem dX6_find_153 : decode cX6_find 153 = .ok (.aload_n 0, 1) := by decide +kernel
theorem dX6_find_154 : decode cX6_find 154 = .ok (.getfield 146, 3) := by decide +kernel
theorem dX6_find_157 : decode cX6_find 157 = .ok (.putfield 166, 3) := by decide +kernel
theorem dX6_find_160 : decode cX6_find 160 = .ok (.iload 4, 2) := by decide +kernel
theorem dX6_find_162 : decode cX6_find 162 = .ok (.ifCond .ge 6, 3) := by decide +kernel
theorem dX6_find_165 : decode cX6_find 165 = .ok (.bipush (-2), 2) := by decide +kernel
theorem dX6_find_167 : decode cX6_find 167 = .ok (.ireturn, 1) := by decide +kernel
theorem dX6_find_168 : decode cX6_find 168 = .ok (.iload 4, 2) := by decide +kernel
theorem dX6_find_170 : decode cX6_find 170 = .ok (.ifCond .ne 5, 3) := by decide +kernel
theorem dX6_find_173 : decode cX6_find 173 = .ok (.iconst (-1), 1) := by decide +kernel
theorem dX6_find_174 : decode cX6_find 174 = .ok (.ireturn, 1) := by decide +kernel
theorem dX6_find_175 : decode cX6_find 175 = .ok (.aload_n 0, 1) := by decide +kernel
theorem dX6_find_176 : decode cX6_find 176 = .ok (.aload_n 0, 1) := by decide +kernel
theorem dX6_find_177 : decode cX6_find 177 = .ok (.getfield 146, 3) := by decide +kernel
theorem dX6_find_180 : decode cX6_find 180 = .ok (.iconst 1, 1) := by decide +kernel
theorem dX6_find_181 : decode cX6_find 181 = .ok (.isub, 1) := by decide +kernel
theorem dX6_find_182 : decode cX6_find 182 = .ok (.invokevirtual 169, 3) := by decide +kernel
theorem dX6_find_185 : decode cX6_find 185 = .ok (.aload_n 0, 1) := by decide +kernel
theorem dX6_find_186 : decode cX6_find 186 = .ok (.getfield 139, 3) := by decide +kernel
theorem dX6_find_189 : decode cX6_find 189 = .ok (.ireturn, 1) := by decide +kernel
set_option maxRecDepth 20000 in
theorem ggX6_act_X6_fails : GoodIn wsX6_act wsX6_fails := goodIn_r _ [7, 8, 9, 10, 11, 12, 13, 14, 15, 16, 17, 18, 19, 20, 21, 22, 23, 24, 25, 26, 27, 28, 29, 30, 31, 32, 33] (by decide +kernel) (by decide +kernel)
set_option maxRecDepth 20000 in
theorem gX6_act_X6_fails : GoodIn wsX6_act (wsV RX6 152 RX6 yX6_fails wsX6_fails) := goodIn_app (goodIn_of _ (by decide +kernel)) ggX6_act_X6_fails
theorem dX6_act_0 : decode cX6_act 0 = .ok (.aload_n 0, 1) := by decide +kernel
theorem dX6_act_1 : decode cX6_act 1 = .ok (.iload_n 1, 1) := by decide +kernel
theorem dX6_act_2 : decode cX6_act 2 = .ok (.ifCond .lt 11, 3) := by decide +kernel
theorem dX6_act_5 : decode cX6_act 5 = .ok (.iload_n 1, 1) := by decide +kernel
theorem dX6_act_6 : decode cX6_act 6 = .ok (.aload_n 0, 1) := by decide +kernel
theorem dX6_act_7 : decode cX6_act 7 = .ok (.getfield 139, 3) := by decide +kernel
theorem dX6_act_10 : decode cX6_act 10 = .ok (.if_icmp .lt 7, 3) := by decide +kernel
theorem dX6_act_13 : decode cX6_act 13 = .ok (.iconst 1, 1) := by decide +kernel
theorem dX6_act_14 : decode cX6_act 14 = .ok (.goto 4, 3) := by decide +kernel
theorem dX6_act_17 : decode cX6_act 17 = .ok (.iconst 0, 1) := by decide +kernel
theorem dX6_act_18 : decode cX6_act 18 = .ok (.invokevirtual 152, 3) := by decide +kernel
theorem dX6_act_21 : decode cX6_act 21 = .ok (.ifCond .eq 5, 3) := by decide +kernel
theorem dX6_act_24 : decode cX6_act 24 = .ok (.iconst 0, 1) := by decide +kernel
theorem dX6_act_25 : decode cX6_act 25 = .ok (.ireturn, 1) := by decide +kernel
theorem dX6_act_26 : decode cX6_act 26 = .ok (.aload_n 0, 1) := by decide +kernel
theorem dX6_act_27 : decode cX6_act 27 = .ok (.getfield 55, 3) := by decide +kernel
theorem dX6_act_30 : decode cX6_act 30 = .ok (.iload_n 1, 1) := by decide +kernel
theorem dX6_act_31 : decode cX6_act 31 = .ok (.iaload, 1) := by decide +kernel
theorem dX6_act_32 : decode cX6_act 32 = .ok (.ireturn, 1) := by decide +kernel
set_option maxRecDepth 20000 in
theorem ggX6_size_X6_fails : GoodIn wsX6_size wsX6_fails := goodIn_r _ [11, 12, 33, 34, 35, 36, 37, 38, 39, 40, 41, 42, 43, 44, 45, 46, 47, 48, 49, 50, 51, 52, 53, 54, 55, 56, 57] (by decide +kernel) (by decide +kernel)
set_option maxRecDepth 20000 in
theorem gX6_size_X6_fails : GoodIn wsX6_size (wsV RX6 152 RX6 yX6_fails wsX6_fails) := goodIn_app (goodIn_of _ (by decide +kernel)) ggX6_size_X6_fails
set_option maxRecDepth 20000 in
theorem ggX6_size_X6_first : GoodIn wsX6_size wsX6_first := goodIn_r _ [16, 17, 4, 18, 5, 19, 20, 21, 22, 23, 24, 25, 26, 27, 10, 28, 29, 30, 31, 32, 33, 34, 35, 36, 37, 38, 39, 40, 41, 42, 43, 44, 45, 46, 47, 48, 49, 50, 51, 52, 53, 54, 55, 56, 57] (by decide +kernel) (by decide +kernel)
set_option maxRecDepth 20000 in
theorem gX6_size_X6_first : GoodIn wsX6_size (wsV RX6 62 RX6 yX6_first wsX6_first) := goodIn_app (goodIn_of _ (by decide +kernel)) ggX6_size_X6_first
theorem dX6_size_0 : decode cX6_size 0 = .ok (.aload_n 0, 1) := by decide +kernel
theorem dX6_size_1 : decode cX6_size 1 = .ok (.iload_n 1, 1) := by decide +kernel
theorem dX6_size_2 : decode cX6_size 2 = .ok (.iconst 1, 1) := by decide +kernel
theorem dX6_size_3 : decode cX6_size 3 = .ok (.if_icmp .lt 28, 3) := by decide +kernel
theorem dX6_size_6 : decode cX6_size 6 = .ok (.iload_n 1, 1) := by decide +kernel
theorem dX6_size_7 : decode cX6_size 7 = .ok (.iconst 4, 1) := by decide +kernel
theorem dX6_size_8 : decode cX6_size 8 = .ok (.if_icmp .gt 23, 3) := by decide +kernel
theorem dX6_size_11 : decode cX6_size 11 = .ok (.iload_n 2, 1) := by decide +kernel
theorem dX6_size_12 : decode cX6_size 12 = .ok (.iconst 1, 1) := by decide +kernel
theorem dX6_size_13 : decode cX6_size 13 = .ok (.if_icmp .lt 18, 3) := by decide +kernel
theorem dX6_size_16 : decode cX6_size 16 = .ok (.iload_n 2, 1) := by decide +kernel
theorem dX6_size_17 : decode cX6_size 17 = .ok (.iconst 2, 1) := by decide +kernel
theorem dX6_size_18 : decode cX6_size 18 = .ok (.if_icmp .gt 13, 3) := by decide +kernel
theorem dX6_size_21 : decode cX6_size 21 = .ok (.iload_n 3, 1) := by decide +kernel
theorem dX6_size_22 : decode cX6_size 22 = .ok (.iconst 1, 1) := by decide +kernel
theorem dX6_size_23 : decode cX6_size 23 = .ok (.if_icmp .lt 8, 3) := by decide +kernel
theorem dX6_size_26 : decode cX6_size 26 = .ok (.iload_n 3, 1) := by decide +kernel
theorem dX6_size_27 : decode cX6_size 27 = .ok (.iconst 3, 1) := by decide +kernel
theorem dX6_size_28 : decode cX6_size 28 = .ok (.if_icmp .le 7, 3) := by decide +kernel
theorem dX6_size_31 : decode cX6_size 31 = .ok (.iconst 1, 1) := by decide +kernel
theorem dX6_size_32 : decode cX6_size 32 = .ok (.goto 4, 3) := by decide +kernel
theorem dX6_size_35 : decode cX6_size 35 = .ok (.iconst 0, 1) := by decide +kernel
theorem dX6_size_36 : decode cX6_size 36 = .ok (.invokevirtual 152, 3) := by decide +kernel
theorem dX6_size_39 : decode cX6_size 39 = .ok (.ifCond .eq 4, 3) := by decide +kernel
theorem dX6_size_42 : decode cX6_size 42 = .ok (.return_, 1) := by decide +kernel
theorem dX6_size_43 : decode cX6_size 43 = .ok (.aload_n 0, 1) := by decide +kernel
theorem dX6_size_44 : decode cX6_size 44 = .ok (.iload_n 1, 1) := by decide +kernel
theorem dX6_size_45 : decode cX6_size 45 = .ok (.putfield 13, 3) := by decide +kernel
theorem dX6_size_48 : decode cX6_size 48 = .ok (.aload_n 0, 1) := by decide +kernel
theorem dX6_size_49 : decode cX6_size 49 = .ok (.iload_n 2, 1) := by decide +kernel
theorem dX6_size_50 : decode cX6_size 50 = .ok (.putfield 16, 3) := by decide +kernel
theorem dX6_size_53 : decode cX6_size 53 = .ok (.aload_n 0, 1) := by decide +kernel
theorem dX6_size_54 : decode cX6_size 54 = .ok (.iload_n 3, 1) := by decide +kernel
theorem dX6_size_55 : decode cX6_size 55 = .ok (.putfield 19, 3) := by decide +kernel
theorem dX6_size_58 : decode cX6_size 58 = .ok (.iconst 0, 1) := by decide +kernel
theorem dX6_size_59 : decode cX6_size 59 = .ok (.istore 4, 2) := by decide +kernel
theorem dX6_size_61 : decode cX6_size 61 = .ok (.iload 4, 2) := by decide +kernel
theorem dX6_size_63 : decode cX6_size 63 = .ok (.aload_n 0, 1) := by decide +kernel
theorem dX6_size_64 : decode cX6_size 64 = .ok (.getfield 22, 3) := by decide +kernel
theorem dX6_size_67 : decode cX6_size 67 = .ok (.arraylength, 1) := by decide +kernel
theorem dX6_size_68 : decode cX6_size 68 = .ok (.if_icmp .ge 17, 3) := by decide +kernel
theorem dX6_size_71 : decode cX6_size 71 = .ok (.aload_n 0, 1) := by decide +kernel
theorem dX6_size_72 : decode cX6_size 72 = .ok (.getfield 22, 3) := by decide +kernel
theorem dX6_size_75 : decode cX6_size 75 = .ok (.iload 4, 2) := by decide +kernel
theorem dX6_size_77 : decode cX6_size 77 = .ok (.iconst (-1), 1) := by decide +kernel
theorem dX6_size_78 : decode cX6_size 78 = .ok (.iastore, 1) := by decide +kernel
theorem dX6_size_79 : decode cX6_size 79 = .ok (.iinc 4 1, 3) := by decide +kernel
theorem dX6_size_82 : decode cX6_size 82 = .ok (.goto (-21), 3) := by decide +kernel
theorem dX6_size_85 : decode cX6_size 85 = .ok (.iconst 0, 1) := by decide +kernel
theorem dX6_size_86 : decode cX6_size 86 = .ok (.istore 4, 2) := by decide +kernel
theorem dX6_size_88 : decode cX6_size 88 = .ok (.iload 4, 2) := by decide +kernel
theorem dX6_size_90 : decode cX6_size 90 = .ok (.iconst 3, 1) := by decide +kernel
theorem dX6_size_91 : decode cX6_size 91 = .ok (.if_icmp .ge 17, 3) := by decide +kernel
theorem dX6_size_94 : decode cX6_size 94 = .ok (.aload_n 0, 1) := by decide +kernel
theorem dX6_size_95 : decode cX6_size 95 = .ok (.getfield 26, 3) := by decide +kernel
theorem dX6_size_98 : decode cX6_size 98 = .ok (.iload 4, 2) := by decide +kernel
theorem dX6_size_100 : decode cX6_size 100 = .ok (.iconst (-1), 1) := by decide +kernel
theorem dX6_size_101 : decode cX6_size 101 = .ok (.iastore, 1) := by decide +kernel
theorem dX6_size_102 : decode cX6_size 102 = .ok (.iinc 4 1, 3) := by decide +kernel
theorem dX6_size_105 : decode cX6_size 105 = .ok (.goto (-17), 3) := by decide +kernel
theorem dX6_size_108 : decode cX6_size 108 = .ok (.aload_n 0, 1) := by decide +kernel
theorem dX6_size_109 : decode cX6_size 109 = .ok (.aload_n 0, 1) := by decide +kernel
theorem dX6_size_110 : decode cX6_size 110 = .ok (.invokevirtual 62, 3) := by decide +kernel
theorem dX6_size_113 : decode cX6_size 113 = .ok (.putfield 66, 3) := by decide +kernel
theorem dX6_size_116 : decode cX6_size 116 = .ok (.return_, 1) := by decide +kernel
theorem dX6_isThing_0 : decode cX6_isThing 0 = .ok (.iload_n 1, 1) := by decide +kernel
theorem dX6_isThing_1 : decode cX6_isThing 1 = .ok (.iconst (-1), 1) := by decide +kernel
theorem dX6_isThing_2 : decode cX6_isThing 2 = .ok (.if_icmp .lt 15, 3) := by decide +kernel
theorem dX6_isThing_5 : decode cX6_isThing 5 = .ok (.iload_n 1, 1) := by decide +kernel
theorem dX6_isThing_6 : decode cX6_isThing 6 = .ok (.aload_n 0, 1) := by decide +kernel
theorem dX6_isThing_7 : decode cX6_isThing 7 = .ok (.getfield 13, 3) := by decide +kernel
theorem dX6_isThing_10 : decode cX6_isThing 10 = .ok (.if_icmp .ge 7, 3) := by decide +kernel
theorem dX6_isThing_13 : decode cX6_isThing 13 = .ok (.iconst 1, 1) := by decide +kernel
theorem dX6_isThing_14 : decode cX6_isThing 14 = .ok (.goto 4, 3) := by decide +kernel
theorem dX6_isThing_17 : decode cX6_isThing 17 = .ok (.iconst 0, 1) := by decide +kernel
theorem dX6_isThing_18 : decode cX6_isThing 18 = .ok (.ireturn, 1) := by decide +kernel
set_option maxRecDepth 20000 in
theorem ggX6_point_X6_isThing : GoodIn wsX6_point wsX6_isThing := goodIn_r _ [9, 1, 36, 37, 38, 39, 40, 41, 42, 43, 44, 45, 46, 47, 48, 49, 50, 51, 52, 53, 54, 55, 56, 57, 58, 59, 60] (by decide +kernel) (by decide +kernel)
set_option maxRecDepth 20000 in
theorem gX6_point_X6_isThing : GoodIn wsX6_point (wsV RX6 172 RX6 yX6_isThing wsX6_isThing) := goodIn_app (goodIn_of _ (by decide +kernel)) ggX6_point_X6_isThing
set_option maxRecDepth 20000 in
theorem ggX6_point_X6_fails : GoodIn wsX6_point wsX6_fails := goodIn_r _ [13, 14, 36, 37, 38, 39, 40, 41, 42, 43, 44, 45, 46, 47, 48, 49, 50, 51, 52, 53, 54, 55, 56, 57, 58, 59, 60] (by decide +kernel) (by decide +kernel)
set_option maxRecDepth 20000 in
theorem gX6_point_X6_fails : GoodIn wsX6_point (wsV RX6 152 RX6 yX6_fails wsX6_fails) := goodIn_app (goodIn_of _ (by decide +kernel)) ggX6_point_X6_fails
set_option maxRecDepth 20000 in
theorem ggX6_point_X6_first : GoodIn wsX6_point wsX6_first := goodIn_r _ [18, 19, 3, 20, 21, 22, 23, 24, 25, 26, 27, 28, 29, 30, 8, 31, 32, 33, 34, 35, 36, 37, 38, 39, 40, 41, 42, 43, 44, 45, 46, 47, 48, 49, 50, 51, 52, 53, 54, 55, 56, 57, 58, 59, 60] (by decide +kernel) (by decide +kernel)
set_option maxRecDepth 20000 in
theorem gX6_point_X6_first : GoodIn wsX6_point (wsV RX6 62 RX6 yX6_first wsX6_first) := goodIn_app (goodIn_of _ (by decide +kernel)) ggX6_point_X6_first
theorem dX6_point_0 : decode cX6_point 0 = .ok (.aload_n 0, 1) := by decide +kernel
theorem dX6_point_1 : decode cX6_point 1 = .ok (.iload_n 1, 1) := by decide +kernel
theorem dX6_point_2 : decode cX6_point 2 = .ok (.ifCond .lt 31, 3) := by decide +kernel
theorem dX6_point_5 : decode cX6_point 5 = .ok (.iload_n 1, 1) := by decide +kernel
theorem dX6_point_6 : decode cX6_point 6 = .ok (.aload_n 0, 1) := by decide +kernel
theorem dX6_point_7 : decode cX6_point 7 = .ok (.getfield 13, 3) := by decide +kernel
theorem dX6_point_10 : decode cX6_point 10 = .ok (.if_icmp .ge 23, 3) := by decide +kernel
theorem dX6_point_13 : decode cX6_point 13 = .ok (.iload_n 2, 1) := by decide +kernel
theorem dX6_point_14 : decode cX6_point 14 = .ok (.ifCond .lt 19, 3) := by decide +kernel
theorem dX6_point_17 : decode cX6_point 17 = .ok (.iload_n 2, 1) := by decide +kernel
theorem dX6_point_18 : decode cX6_point 18 = .ok (.aload_n 0, 1) := by decide +kernel
theorem dX6_point_19 : decode cX6_point 19 = .ok (.getfield 16, 3) := by decide +kernel
theorem dX6_point_22 : decode cX6_point 22 = .ok (.if_icmp .ge 11, 3) := by decide +kernel
theorem dX6_point_25 : decode cX6_point 25 = .ok (.aload_n 0, 1) := by decide +kernel
theorem dX6_point_26 : decode cX6_point 26 = .ok (.iload_n 3, 1) := by decide +kernel
theorem dX6_point_27 : decode cX6_point 27 = .ok (.invokevirtual 172, 3) := by decide +kernel
theorem dX6_point_30 : decode cX6_point 30 = .ok (.ifCond .ne 7, 3) := by decide +kernel
theorem dX6_point_33 : decode cX6_point 33 = .ok (.iconst 1, 1) := by decide +kernel
theorem dX6_point_34 : decode cX6_point 34 = .ok (.goto 4, 3) := by decide +kernel
theorem dX6_point_37 : decode cX6_point 37 = .ok (.iconst 0, 1) := by decide +kernel
theorem dX6_point_38 : decode cX6_point 38 = .ok (.invokevirtual 152, 3) := by decide +kernel
theorem dX6_point_41 : decode cX6_point 41 = .ok (.ifCond .eq 4, 3) := by decide +kernel
theorem dX6_point_44 : decode cX6_point 44 = .ok (.return_, 1) := by decide +kernel
theorem dX6_point_45 : decode cX6_point 45 = .ok (.aload_n 0, 1) := by decide +kernel
theorem dX6_point_46 : decode cX6_point 46 = .ok (.getfield 22, 3) := by decide +kernel
theorem dX6_point_49 : decode cX6_point 49 = .ok (.iconst 2, 1) := by decide +kernel
theorem dX6_point_50 : decode cX6_point 50 = .ok (.iload_n 1, 1) := by decide +kernel
theorem dX6_point_51 : decode cX6_point 51 = .ok (.imul, 1) := by decide +kernel
theorem dX6_point_52 : decode cX6_point 52 = .ok (.iload_n 2, 1) := by decide +kernel
theorem dX6_point_53 : decode cX6_point 53 = .ok (.iadd, 1) := by decide +kernel
theorem dX6_point_54 : decode cX6_point 54 = .ok (.iload_n 3, 1) := by decide +kernel
theorem dX6_point_55 : decode cX6_point 55 = .ok (.iastore, 1) := by decide +kernel
theorem dX6_point_56 : decode cX6_point 56 = .ok (.aload_n 0, 1) := by decide +kernel
theorem dX6_point_57 : decode cX6_point 57 = .ok (.aload_n 0, 1) := by decide +kernel
theorem dX6_point_58 : decode cX6_point 58 = .ok (.invokevirtual 62, 3) := by decide +kernel
theorem dX6_point_61 : decode cX6_point 61 = .ok (.putfield 66, 3) := by decide +kernel
theorem dX6_point_64 : decode cX6_point 64 = .ok (.return_, 1) := by decide +kernel
set_option maxRecDepth 20000 in
theorem ggX6_root_X6_isThing : GoodIn wsX6_root wsX6_isThing := goodIn_r _ [8, 9, 36, 37, 38, 39, 40, 41, 42, 43, 44, 45, 46, 47, 48, 49, 50, 51, 52, 53, 54, 55, 56, 57, 58, 59, 60] (by decide +kernel) (by decide +kernel)
set_option maxRecDepth 20000 in
theorem gX6_root_X6_isThing : GoodIn wsX6_root (wsV RX6 172 RX6 yX6_isThing wsX6_isThing) := goodIn_app (goodIn_of _ (by decide +kernel)) ggX6_root_X6_isThing
set_option maxRecDepth 20000 in
theorem ggX6_root_X6_fails : GoodIn wsX6_root wsX6_fails := goodIn_r _ [13, 14, 36, 37, 38, 39, 40, 41, 42, 43, 44, 45, 46, 47, 48, 49, 50, 51, 52, 53, 54, 55, 56, 57, 58, 59, 60] (by decide +kernel) (by decide +kernel)
set_option maxRecDepth 20000 in
theorem gX6_root_X6_fails : GoodIn wsX6_root (wsV RX6 152 RX6 yX6_fails wsX6_fails) := goodIn_app (goodIn_of _ (by decide +kernel)) ggX6_root_X6_fails
set_option maxRecDepth 20000 in
theorem ggX6_root_X6_first : GoodIn wsX6_root wsX6_first := goodIn_r _ [18, 19, 20, 21, 2, 22, 23, 24, 25, 26, 27, 28, 29, 30, 7, 31, 32, 33, 34, 35, 36, 37, 38, 39, 40, 41, 42, 43, 44, 45, 46, 47, 48, 49, 50, 51, 52, 53, 54, 55, 56, 57, 58, 59, 60] (by decide +kernel) (by decide +kernel)
set_option maxRecDepth 20000 in
theorem gX6_root_X6_first : GoodIn wsX6_root (wsV RX6 62 RX6 yX6_first wsX6_first) := goodIn_app (goodIn_of _ (by decide +kernel)) ggX6_root_X6_first
theorem dX6_root_0 : decode cX6_root 0 = .ok (.aload_n 0, 1) := by decide +kernel
theorem dX6_root_1 : decode cX6_root 1 = .ok (.iload_n 1, 1) := by decide +kernel
theorem dX6_root_2 : decode cX6_root 2 = .ok (.ifCond .lt 19, 3) := by decide +kernel
theorem dX6_root_5 : decode cX6_root 5 = .ok (.iload_n 1, 1) := by decide +kernel
theorem dX6_root_6 : decode cX6_root 6 = .ok (.aload_n 0, 1) := by decide +kernel
theorem dX6_root_7 : decode cX6_root 7 = .ok (.getfield 19, 3) := by decide +kernel
theorem dX6_root_10 : decode cX6_root 10 = .ok (.if_icmp .ge 11, 3) := by decide +kernel
theorem dX6_root_13 : decode cX6_root 13 = .ok (.aload_n 0, 1) := by decide +kernel
theorem dX6_root_14 : decode cX6_root 14 = .ok (.iload_n 2, 1) := by decide +kernel
theorem dX6_root_15 : decode cX6_root 15 = .ok (.invokevirtual 172, 3) := by decide +kernel
theorem dX6_root_18 : decode cX6_root 18 = .ok (.ifCond .ne 7, 3) := by decide +kernel
theorem dX6_root_21 : decode cX6_root 21 = .ok (.iconst 1, 1) := by decide +kernel
theorem dX6_root_22 : decode cX6_root 22 = .ok (.goto 4, 3) := by decide +kernel
theorem dX6_root_25 : decode cX6_root 25 = .ok (.iconst 0, 1) := by decide +kernel
theorem dX6_root_26 : decode cX6_root 26 = .ok (.invokevirtual 152, 3) := by decide +kernel
theorem dX6_root_29 : decode cX6_root 29 = .ok (.ifCond .eq 4, 3) := by decide +kernel
theorem dX6_root_32 : decode cX6_root 32 = .ok (.return_, 1) := by decide +kernel
theorem dX6_root_33 : decode cX6_root 33 = .ok (.aload_n 0, 1) := by decide +kernel
theorem dX6_root_34 : decode cX6_root 34 = .ok (.getfield 26, 3) := by decide +kernel
theorem dX6_root_37 : decode cX6_root 37 = .ok (.iload_n 1, 1) := by decide +kernel
theorem dX6_root_38 : decode cX6_root 38 = .ok (.iload_n 2, 1) := by decide +kernel
theorem dX6_root_39 : decode cX6_root 39 = .ok (.iastore, 1) := by decide +kernel
theorem dX6_root_40 : decode cX6_root 40 = .ok (.aload_n 0, 1) := by decide +kernel
theorem dX6_root_41 : decode cX6_root 41 = .ok (.aload_n 0, 1) := by decide +kernel
theorem dX6_root_42 : decode cX6_root 42 = .ok (.invokevirtual 62, 3) := by decide +kernel
theorem dX6_root_45 : decode cX6_root 45 = .ok (.putfield 66, 3) := by decide +kernel
theorem dX6_root_48 : decode cX6_root 48 = .ok (.return_, 1) := by decide +kernel
set_option maxRecDepth 20000 in
theorem ggX6_rules_X6_fails : GoodIn wsX6_rules wsX6_fails := goodIn_r _ [8, 9, 31, 32, 33, 34, 35, 36, 37, 38, 39, 40, 41, 42, 43, 44, 45, 46, 47, 48, 49, 50, 51, 52, 53, 54, 55] (by decide +kernel) (by decide +kernel)
set_option maxRecDepth 20000 in
theorem gX6_rules_X6_fails : GoodIn wsX6_rules (wsV RX6 152 RX6 yX6_fails wsX6_fails) := goodIn_app (goodIn_of _ (by decide +kernel)) ggX6_rules_X6_fails
set_option maxRecDepth 20000 in
theorem ggX6_rules_X6_first : GoodIn wsX6_rules wsX6_first := goodIn_r _ [13, 14, 15, 16, 17, 18, 19, 20, 2, 21, 22, 23, 24, 25, 7, 26, 27, 28, 29, 30, 31, 32, 33, 34, 35, 36, 37, 38, 39, 40, 41, 42, 43, 44, 45, 46, 47, 48, 49, 50, 51, 52, 53, 54, 55] (by decide +kernel) (by decide +kernel)
set_option maxRecDepth 20000 in
theorem gX6_rules_X6_first : GoodIn wsX6_rules (wsV RX6 62 RX6 yX6_first wsX6_first) := goodIn_app (goodIn_of _ (by decide +kernel)) ggX6_rules_X6_first
theorem dX6_rules_0 : decode cX6_rules 0 = .ok (.aload_n 0, 1) := by decide +kernel
theorem dX6_rules_1 : decode cX6_rules 1 = .ok (.iload_n 1, 1) := by decide +kernel
theorem dX6_rules_2 : decode cX6_rules 2 = .ok (.ifCond .lt 19, 3) := by decide +kernel
theorem dX6_rules_5 : decode cX6_rules 5 = .ok (.iload_n 1, 1) := by decide +kernel
theorem dX6_rules_6 : decode cX6_rules 6 = .ok (.bipush 127, 2) := by decide +kernel
theorem dX6_rules_8 : decode cX6_rules 8 = .ok (.if_icmp .gt 13, 3) := by decide +kernel
theorem dX6_rules_11 : decode cX6_rules 11 = .ok (.iload_n 2, 1) := by decide +kernel
theorem dX6_rules_12 : decode cX6_rules 12 = .ok (.ifCond .lt 9, 3) := by decide +kernel
theorem dX6_rules_15 : decode cX6_rules 15 = .ok (.iload_n 2, 1) := by decide +kernel
theorem dX6_rules_16 : decode cX6_rules 16 = .ok (.bipush 8, 2) := by decide +kernel
theorem dX6_rules_18 : decode cX6_rules 18 = .ok (.if_icmp .le 7, 3) := by decide +kernel
theorem dX6_rules_21 : decode cX6_rules 21 = .ok (.iconst 1, 1) := by decide +kernel
theorem dX6_rules_22 : decode cX6_rules 22 = .ok (.goto 4, 3) := by decide +kernel
theorem dX6_rules_25 : decode cX6_rules 25 = .ok (.iconst 0, 1) := by decide +kernel
theorem dX6_rules_26 : decode cX6_rules 26 = .ok (.invokevirtual 152, 3) := by decide +kernel
theorem dX6_rules_29 : decode cX6_rules 29 = .ok (.ifCond .eq 4, 3) := by decide +kernel
theorem dX6_rules_32 : decode cX6_rules 32 = .ok (.return_, 1) := by decide +kernel
theorem dX6_rules_33 : decode cX6_rules 33 = .ok (.aload_n 0, 1) := by decide +kernel
theorem dX6_rules_34 : decode cX6_rules 34 = .ok (.iload_n 1, 1) := by decide +kernel
theorem dX6_rules_35 : decode cX6_rules 35 = .ok (.putfield 94, 3) := by decide +kernel
theorem dX6_rules_38 : decode cX6_rules 38 = .ok (.aload_n 0, 1) := by decide +kernel
theorem dX6_rules_39 : decode cX6_rules 39 = .ok (.iload_n 2, 1) := by decide +kernel
theorem dX6_rules_40 : decode cX6_rules 40 = .ok (.putfield 73, 3) := by decide +kernel
theorem dX6_rules_43 : decode cX6_rules 43 = .ok (.aload_n 0, 1) := by decide +kernel
theorem dX6_rules_44 : decode cX6_rules 44 = .ok (.aload_n 0, 1) := by decide +kernel
theorem dX6_rules_45 : decode cX6_rules 45 = .ok (.invokevirtual 62, 3) := by decide +kernel
theorem dX6_rules_48 : decode cX6_rules 48 = .ok (.putfield 66, 3) := by decide +kernel
theorem dX6_rules_51 : decode cX6_rules 51 = .ok (.return_, 1) := by decide +kernel
set_option maxRecDepth 20000 in
theorem ggX6_play_X6_take : GoodIn wsX6_play wsX6_take := goodIn_r _ [6, 7, 8, 9, 10, 11, 12, 13, 14, 15, 16, 17, 75, 76, 77, 78, 79, 80, 81, 82, 83, 84, 85, 86, 87, 88, 89, 90, 91, 92, 93, 94, 95, 96, 97, 98, 99] (by decide +kernel) (by decide +kernel)
set_option maxRecDepth 20000 in
theorem gX6_play_X6_take : GoodIn wsX6_play (wsV RX6 159 RX6 yX6_take wsX6_take) := goodIn_app (goodIn_of _ (by decide +kernel)) ggX6_play_X6_take
set_option maxRecDepth 20000 in
theorem ggX6_play_X6_canDo : GoodIn wsX6_play wsX6_canDo := goodIn_r _ [21, 17, 14, 22, 16, 23, 12, 24, 25, 26, 5, 27, 28, 11, 29, 30, 31, 32, 75, 76, 77, 78, 79, 80, 81, 82, 83, 84, 85, 86, 87, 88, 89, 90, 91, 92, 93, 94, 95, 96, 97, 98, 99] (by decide +kernel) (by decide +kernel)
set_option maxRecDepth 20000 in
theorem gX6_play_X6_canDo : GoodIn wsX6_play (wsV RX6 126 RX6 yX6_canDo wsX6_canDo) := goodIn_app (goodIn_of _ (by decide +kernel)) ggX6_play_X6_canDo
set_option maxRecDepth 20000 in
theorem ggX6_play_X6_fails : GoodIn wsX6_play wsX6_fails := goodIn_r _ [36, 37, 75, 76, 77, 78, 79, 80, 81, 82, 83, 84, 85, 86, 87, 88, 89, 90, 91, 92, 93, 94, 95, 96, 97, 98, 99] (by decide +kernel) (by decide +kernel)
set_option maxRecDepth 20000 in
theorem gX6_play_X6_fails : GoodIn wsX6_play (wsV RX6 152 RX6 yX6_fails wsX6_fails) := goodIn_app (goodIn_of _ (by decide +kernel)) ggX6_play_X6_fails
set_option maxRecDepth 20000 in
theorem ggX6_play_X6_act0 : GoodIn wsX6_play wsX6_act0 := goodIn_r _ [41, 16, 12, 7, 42, 43, 44, 5, 45, 14, 22, 9, 23, 11, 46, 47, 48, 49, 24, 25, 26, 27, 28, 50, 51, 52, 53, 17, 54, 55, 56, 57, 58, 59, 60, 61, 62, 63, 64, 65, 66, 75, 76, 77, 78, 79, 80, 81, 82, 83, 84, 85, 86, 87, 88, 89, 90, 91, 92, 93, 94, 95, 96, 97, 98, 99] (by decide +kernel) (by decide +kernel)
set_option maxRecDepth 20000 in
theorem gX6_play_X6_act0 : GoodIn wsX6_play (wsV RX6 163 RX6 yX6_act0 wsX6_act0) := goodIn_app (goodIn_of _ (by decide +kernel)) ggX6_play_X6_act0
set_option maxRecDepth 20000 in
theorem ggX6_play_X6_number : GoodIn wsX6_play wsX6_number := goodIn_r _ [70, 17, 15, 16, 13, 14, 8, 12, 10, 11, 9, 7, 75, 76, 77, 78, 79, 80, 81, 82, 83, 84, 85, 86, 87, 88, 89, 90, 91, 92, 93, 94, 95, 96, 97, 98, 99] (by decide +kernel) (by decide +kernel)
set_option maxRecDepth 20000 in
theorem gX6_play_X6_number : GoodIn wsX6_play (wsV RX6 83 RX6 yX6_number wsX6_number) := goodIn_app (goodIn_of _ (by decide +kernel)) ggX6_play_X6_number
set_option maxRecDepth 20000 in
theorem ggX6_play_X6_canDoMany : GoodIn wsX6_play wsX6_canDoMany := goodIn_r _ [74, 18, 19, 20, 5, 21, 17, 14, 22, 16, 23, 12, 24, 25, 26, 27, 28, 11, 29, 30, 31, 32, 75, 76, 77, 78, 79, 80, 81, 82, 83, 84, 85, 86, 87, 88, 89, 90, 91, 92, 93, 94, 95, 96, 97, 98, 99] (by decide +kernel) (by decide +kernel)
set_option maxRecDepth 20000 in
theorem gX6_play_X6_canDoMany : GoodIn wsX6_play (wsV RX6 175 RX6 yX6_canDoMany wsX6_canDoMany) := goodIn_app (goodIn_of _ (by decide +kernel)) ggX6_play_X6_canDoMany
theorem dX6_play_0 : decode cX6_play 0 = .ok (.aload_n 0, 1) := by decide +kernel
theorem dX6_play_1 : decode cX6_play 1 = .ok (.aload_n 0, 1) := by decide +kernel
theorem dX6_play_2 : decode cX6_play 2 = .ok (.getfield 66, 3) := by decide +kernel
theorem dX6_play_5 : decode cX6_play 5 = .ok (.invokevirtual 159, 3) := by decide +kernel
theorem dX6_play_8 : decode cX6_play 8 = .ok (.aload_n 0, 1) := by decide +kernel
theorem dX6_play_9 : decode cX6_play 9 = .ok (.iload_n 1, 1) := by decide +kernel
theorem dX6_play_10 : decode cX6_play 10 = .ok (.ifCond .lt 9, 3) := by decide +kernel
theorem dX6_play_13 : decode cX6_play 13 = .ok (.iload_n 1, 1) := by decide +kernel
theorem dX6_play_14 : decode cX6_play 14 = .ok (.bipush 50, 2) := by decide +kernel
theorem dX6_play_16 : decode cX6_play 16 = .ok (.if_icmp .lt 7, 3) := by decide +kernel
theorem dX6_play_19 : decode cX6_play 19 = .ok (.iconst 1, 1) := by decide +kernel
theorem dX6_play_20 : decode cX6_play 20 = .ok (.goto 16, 3) := by decide +kernel
theorem dX6_play_23 : decode cX6_play 23 = .ok (.aload_n 0, 1) := by decide +kernel
theorem dX6_play_24 : decode cX6_play 24 = .ok (.iload_n 1, 1) := by decide +kernel
theorem dX6_play_25 : decode cX6_play 25 = .ok (.invokevirtual 126, 3) := by decide +kernel
theorem dX6_play_28 : decode cX6_play 28 = .ok (.ifCond .ne 7, 3) := by decide +kernel
theorem dX6_play_31 : decode cX6_play 31 = .ok (.iconst 2, 1) := by decide +kernel
theorem dX6_play_32 : decode cX6_play 32 = .ok (.goto 4, 3) := by decide +kernel
theorem dX6_play_35 : decode cX6_play 35 = .ok (.iconst 0, 1) := by decide +kernel
theorem dX6_play_36 : decode cX6_play 36 = .ok (.invokevirtual 152, 3) := by decide +kernel
theorem dX6_play_39 : decode cX6_play 39 = .ok (.ifCond .eq 5, 3) := by decide +kernel
theorem dX6_play_42 : decode cX6_play 42 = .ok (.iconst 0, 1) := by decide +kernel
theorem dX6_play_43 : decode cX6_play 43 = .ok (.ireturn, 1) := by decide +kernel
theorem dX6_play_44 : decode cX6_play 44 = .ok (.aload_n 0, 1) := by decide +kernel
theorem dX6_play_45 : decode cX6_play 45 = .ok (.iload_n 1, 1) := by decide +kernel
theorem dX6_play_46 : decode cX6_play 46 = .ok (.invokevirtual 163, 3) := by decide +kernel
theorem dX6_play_49 : decode cX6_play 49 = .ok (.aload_n 0, 1) := by decide +kernel
theorem dX6_play_50 : decode cX6_play 50 = .ok (.aload_n 0, 1) := by decide +kernel
theorem dX6_play_51 : decode cX6_play 51 = .ok (.invokevirtual 83, 3) := by decide +kernel
theorem dX6_play_54 : decode cX6_play 54 = .ok (.putfield 66, 3) := by decide +kernel
theorem dX6_play_57 : decode cX6_play 57 = .ok (.aload_n 0, 1) := by decide +kernel
theorem dX6_play_58 : decode cX6_play 58 = .ok (.invokevirtual 175, 3) := by decide +kernel
theorem dX6_play_61 : decode cX6_play 61 = .ok (.ireturn, 1) := by decide +kernel
set_option maxRecDepth 20000 in
theorem ggX6_again_X6_first : GoodIn wsX6_again wsX6_first := goodIn_r _ [7, 8, 9, 10, 11, 12, 13, 14, 15, 16, 17, 18, 19, 20, 6, 21, 22, 23, 24, 25, 45, 46, 47, 48, 49, 50, 51, 52, 53, 54, 55, 56, 57, 58, 59, 60, 61, 62, 63, 64, 65, 66, 67, 68, 69] (by decide +kernel) (by decide +kernel)
set_option maxRecDepth 20000 in
theorem gX6_again_X6_first : GoodIn wsX6_again (wsV RX6 62 RX6 yX6_first wsX6_first) := goodIn_app (goodIn_of _ (by decide +kernel)) ggX6_again_X6_first
set_option maxRecDepth 20000 in
theorem ggX6_again_X6_canDoMany : GoodIn wsX6_again wsX6_canDoMany := goodIn_r _ [29, 30, 31, 32, 6, 33, 17, 14, 34, 16, 35, 10, 36, 37, 38, 39, 40, 12, 41, 42, 43, 44, 45, 46, 47, 48, 49, 50, 51, 52, 53, 54, 55, 56, 57, 58, 59, 60, 61, 62, 63, 64, 65, 66, 67, 68, 69] (by decide +kernel) (by decide +kernel)
set_option maxRecDepth 20000 in
theorem gX6_again_X6_canDoMany : GoodIn wsX6_again (wsV RX6 175 RX6 yX6_canDoMany wsX6_canDoMany) := goodIn_app (goodIn_of _ (by decide +kernel)) ggX6_again_X6_canDoMany
theorem dX6_again_0 : decode cX6_again 0 = .ok (.aload_n 0, 1) := by decide +kernel
theorem dX6_again_1 : decode cX6_again 1 = .ok (.iconst 0, 1) := by decide +kernel
theorem dX6_again_2 : decode cX6_again 2 = .ok (.putfield 1, 3) := by decide +kernel
theorem dX6_again_5 : decode cX6_again 5 = .ok (.aload_n 0, 1) := by decide +kernel
theorem dX6_again_6 : decode cX6_again 6 = .ok (.aload_n 0, 1) := by decide +kernel
theorem dX6_again_7 : decode cX6_again 7 = .ok (.invokevirtual 62, 3) := by decide +kernel
theorem dX6_again_10 : decode cX6_again 10 = .ok (.putfield 66, 3) := by decide +kernel
theorem dX6_again_13 : decode cX6_again 13 = .ok (.aload_n 0, 1) := by decide +kernel
theorem dX6_again_14 : decode cX6_again 14 = .ok (.invokevirtual 175, 3) := by decide +kernel
theorem dX6_again_17 : decode cX6_again 17 = .ok (.ireturn, 1) := by decide +kernel
set_option maxRecDepth 20000 in
theorem ggX6_broken_X6_fails : GoodIn wsX6_broken wsX6_fails := goodIn_r _ [6, 7, 39, 40, 41, 42, 43, 44, 45, 46, 47, 48, 49, 50, 51, 52, 53, 54, 55, 56, 57, 58, 59, 60, 61, 62, 63] (by decide +kernel) (by decide +kernel)
set_option maxRecDepth 20000 in
theorem gX6_broken_X6_fails : GoodIn wsX6_broken (wsV RX6 152 RX6 yX6_fails wsX6_fails) := goodIn_app (goodIn_of _ (by decide +kernel)) ggX6_broken_X6_fails
set_option maxRecDepth 20000 in
theorem ggX6_broken_X6_take : GoodIn wsX6_broken wsX6_take := goodIn_r _ [11, 12, 13, 14, 15, 16, 17, 18, 19, 20, 21, 22, 39, 40, 41, 42, 43, 44, 45, 46, 47, 48, 49, 50, 51, 52, 53, 54, 55, 56, 57, 58, 59, 60, 61, 62, 63] (by decide +kernel) (by decide +kernel)
set_option maxRecDepth 20000 in
theorem gX6_broken_X6_take : GoodIn wsX6_broken (wsV RX6 159 RX6 yX6_take wsX6_take) := goodIn_app (goodIn_of _ (by decide +kernel)) ggX6_broken_X6_take
set_option maxRecDepth 20000 in
theorem ggX6_broken_X6_isBroken : GoodIn wsX6_broken wsX6_isBroken := goodIn_r _ [26, 22, 27, 28, 16, 29, 12, 30, 31, 32, 5, 33, 34, 17, 35, 36, 37, 38, 39, 40, 41, 42, 43, 44, 45, 46, 47, 48, 49, 50, 51, 52, 53, 54, 55, 56, 57, 58, 59, 60, 61, 62, 63] (by decide +kernel) (by decide +kernel)
set_option maxRecDepth 20000 in
theorem gX6_broken_X6_isBroken : GoodIn wsX6_broken (wsV RX6 149 RX6 yX6_isBroken wsX6_isBroken) := goodIn_app (goodIn_of _ (by decide +kernel)) ggX6_broken_X6_isBroken
theorem dX6_broken_0 : decode cX6_broken 0 = .ok (.aload_n 0, 1) := by decide +kernel
theorem dX6_broken_1 : decode cX6_broken 1 = .ok (.iload_n 1, 1) := by decide +kernel
theorem dX6_broken_2 : decode cX6_broken 2 = .ok (.ifCond .lt 8, 3) := by decide +kernel
theorem dX6_broken_5 : decode cX6_broken 5 = .ok (.iload_n 1, 1) := by decide +kernel
theorem dX6_broken_6 : decode cX6_broken 6 = .ok (.iconst 3, 1) := by decide +kernel
theorem dX6_broken_7 : decode cX6_broken 7 = .ok (.if_icmp .le 7, 3) := by decide +kernel
theorem dX6_broken_10 : decode cX6_broken 10 = .ok (.iconst 1, 1) := by decide +kernel
theorem dX6_broken_11 : decode cX6_broken 11 = .ok (.goto 4, 3) := by decide +kernel
theorem dX6_broken_14 : decode cX6_broken 14 = .ok (.iconst 0, 1) := by decide +kernel
theorem dX6_broken_15 : decode cX6_broken 15 = .ok (.invokevirtual 152, 3) := by decide +kernel
theorem dX6_broken_18 : decode cX6_broken 18 = .ok (.ifCond .eq 5, 3) := by decide +kernel
theorem dX6_broken_21 : decode cX6_broken 21 = .ok (.iconst 0, 1) := by decide +kernel
theorem dX6_broken_22 : decode cX6_broken 22 = .ok (.ireturn, 1) := by decide +kernel
theorem dX6_broken_23 : decode cX6_broken 23 = .ok (.aload_n 0, 1) := by decide +kernel
theorem dX6_broken_24 : decode cX6_broken 24 = .ok (.aload_n 0, 1) := by decide +kernel
theorem dX6_broken_25 : decode cX6_broken 25 = .ok (.getfield 66, 3) := by decide +kernel
theorem dX6_broken_28 : decode cX6_broken 28 = .ok (.invokevirtual 159, 3) := by decide +kernel
theorem dX6_broken_31 : decode cX6_broken 31 = .ok (.aload_n 0, 1) := by decide +kernel
theorem dX6_broken_32 : decode cX6_broken 32 = .ok (.iload_n 1, 1) := by decide +kernel
theorem dX6_broken_33 : decode cX6_broken 33 = .ok (.invokevirtual 149, 3) := by decide +kernel
theorem dX6_broken_36 : decode cX6_broken 36 = .ok (.ireturn, 1) := by decide +kernel
set_option maxRecDepth 20000 in
theorem ggX6_colour_X6_fails : GoodIn wsX6_colour wsX6_fails := goodIn_r _ [8, 9, 24, 25, 26, 27, 28, 29, 30, 31, 32, 33, 34, 35, 36, 37, 38, 39, 40, 41, 42, 43, 44, 45, 46, 47, 48] (by decide +kernel) (by decide +kernel)
set_option maxRecDepth 20000 in
theorem gX6_colour_X6_fails : GoodIn wsX6_colour (wsV RX6 152 RX6 yX6_fails wsX6_fails) := goodIn_app (goodIn_of _ (by decide +kernel)) ggX6_colour_X6_fails
set_option maxRecDepth 20000 in
theorem ggX6_colour_X6_take : GoodIn wsX6_colour wsX6_take := goodIn_r _ [13, 14, 15, 16, 17, 3, 18, 19, 20, 21, 22, 23, 24, 25, 26, 27, 28, 29, 30, 31, 32, 33, 34, 35, 36, 37, 38, 39, 40, 41, 42, 43, 44, 45, 46, 47, 48] (by decide +kernel) (by decide +kernel)
set_option maxRecDepth 20000 in
theorem gX6_colour_X6_take : GoodIn wsX6_colour (wsV RX6 159 RX6 yX6_take wsX6_take) := goodIn_app (goodIn_of _ (by decide +kernel)) ggX6_colour_X6_take
theorem dX6_colour_0 : decode cX6_colour 0 = .ok (.aload_n 0, 1) := by decide +kernel
theorem dX6_colour_1 : decode cX6_colour 1 = .ok (.iload_n 1, 1) := by decide +kernel
theorem dX6_colour_2 : decode cX6_colour 2 = .ok (.ifCond .lt 11, 3) := by decide +kernel
theorem dX6_colour_5 : decode cX6_colour 5 = .ok (.iload_n 1, 1) := by decide +kernel
theorem dX6_colour_6 : decode cX6_colour 6 = .ok (.aload_n 0, 1) := by decide +kernel
theorem dX6_colour_7 : decode cX6_colour 7 = .ok (.getfield 13, 3) := by decide +kernel
theorem dX6_colour_10 : decode cX6_colour 10 = .ok (.if_icmp .lt 7, 3) := by decide +kernel
theorem dX6_colour_13 : decode cX6_colour 13 = .ok (.iconst 1, 1) := by decide +kernel
theorem dX6_colour_14 : decode cX6_colour 14 = .ok (.goto 4, 3) := by decide +kernel
theorem dX6_colour_17 : decode cX6_colour 17 = .ok (.iconst 0, 1) := by decide +kernel
theorem dX6_colour_18 : decode cX6_colour 18 = .ok (.invokevirtual 152, 3) := by decide +kernel
theorem dX6_colour_21 : decode cX6_colour 21 = .ok (.ifCond .eq 5, 3) := by decide +kernel
theorem dX6_colour_24 : decode cX6_colour 24 = .ok (.iconst 0, 1) := by decide +kernel
theorem dX6_colour_25 : decode cX6_colour 25 = .ok (.ireturn, 1) := by decide +kernel
theorem dX6_colour_26 : decode cX6_colour 26 = .ok (.aload_n 0, 1) := by decide +kernel
theorem dX6_colour_27 : decode cX6_colour 27 = .ok (.aload_n 0, 1) := by decide +kernel
theorem dX6_colour_28 : decode cX6_colour 28 = .ok (.getfield 66, 3) := by decide +kernel
theorem dX6_colour_31 : decode cX6_colour 31 = .ok (.invokevirtual 159, 3) := by decide +kernel
theorem dX6_colour_34 : decode cX6_colour 34 = .ok (.aload_n 0, 1) := by decide +kernel
theorem dX6_colour_35 : decode cX6_colour 35 = .ok (.getfield 35, 3) := by decide +kernel
theorem dX6_colour_38 : decode cX6_colour 38 = .ok (.iload_n 1, 1) := by decide +kernel
theorem dX6_colour_39 : decode cX6_colour 39 = .ok (.iaload, 1) := by decide +kernel
theorem dX6_colour_40 : decode cX6_colour 40 = .ok (.ireturn, 1) := by decide +kernel
set_option maxRecDepth 20000 in
theorem ggX6_field_X6_fails : GoodIn wsX6_field wsX6_fails := goodIn_r _ [9, 10, 25, 26, 27, 28, 29, 30, 31, 32, 33, 34, 35, 36, 37, 38, 39, 40, 41, 42, 43, 44, 45, 46, 47, 48, 49] (by decide +kernel) (by decide +kernel)
set_option maxRecDepth 20000 in
theorem gX6_field_X6_fails : GoodIn wsX6_field (wsV RX6 152 RX6 yX6_fails wsX6_fails) := goodIn_app (goodIn_of _ (by decide +kernel)) ggX6_field_X6_fails
set_option maxRecDepth 20000 in
theorem ggX6_field_X6_take : GoodIn wsX6_field wsX6_take := goodIn_r _ [14, 4, 15, 16, 17, 18, 19, 20, 21, 22, 23, 24, 25, 26, 27, 28, 29, 30, 31, 32, 33, 34, 35, 36, 37, 38, 39, 40, 41, 42, 43, 44, 45, 46, 47, 48, 49] (by decide +kernel) (by decide +kernel)
set_option maxRecDepth 20000 in
theorem gX6_field_X6_take : GoodIn wsX6_field (wsV RX6 159 RX6 yX6_take wsX6_take) := goodIn_app (goodIn_of _ (by decide +kernel)) ggX6_field_X6_take
theorem dX6_field_0 : decode cX6_field 0 = .ok (.aload_n 0, 1) := by decide +kernel
theorem dX6_field_1 : decode cX6_field 1 = .ok (.iload_n 1, 1) := by decide +kernel
theorem dX6_field_2 : decode cX6_field 2 = .ok (.ifCond .lt 23, 3) := by decide +kernel
theorem dX6_field_5 : decode cX6_field 5 = .ok (.iload_n 1, 1) := by decide +kernel
theorem dX6_field_6 : decode cX6_field 6 = .ok (.aload_n 0, 1) := by decide +kernel
theorem dX6_field_7 : decode cX6_field 7 = .ok (.getfield 13, 3) := by decide +kernel
theorem dX6_field_10 : decode cX6_field 10 = .ok (.if_icmp .ge 15, 3) := by decide +kernel
theorem dX6_field_13 : decode cX6_field 13 = .ok (.iload_n 2, 1) := by decide +kernel
theorem dX6_field_14 : decode cX6_field 14 = .ok (.ifCond .lt 11, 3) := by decide +kernel
theorem dX6_field_17 : decode cX6_field 17 = .ok (.iload_n 2, 1) := by decide +kernel
theorem dX6_field_18 : decode cX6_field 18 = .ok (.aload_n 0, 1) := by decide +kernel
theorem dX6_field_19 : decode cX6_field 19 = .ok (.getfield 16, 3) := by decide +kernel
theorem dX6_field_22 : decode cX6_field 22 = .ok (.if_icmp .lt 7, 3) := by decide +kernel
theorem dX6_field_25 : decode cX6_field 25 = .ok (.iconst 1, 1) := by decide +kernel
theorem dX6_field_26 : decode cX6_field 26 = .ok (.goto 4, 3) := by decide +kernel
theorem dX6_field_29 : decode cX6_field 29 = .ok (.iconst 0, 1) := by decide +kernel
theorem dX6_field_30 : decode cX6_field 30 = .ok (.invokevirtual 152, 3) := by decide +kernel
theorem dX6_field_33 : decode cX6_field 33 = .ok (.ifCond .eq 5, 3) := by decide +kernel
theorem dX6_field_36 : decode cX6_field 36 = .ok (.iconst 0, 1) := by decide +kernel
theorem dX6_field_37 : decode cX6_field 37 = .ok (.ireturn, 1) := by decide +kernel
theorem dX6_field_38 : decode cX6_field 38 = .ok (.aload_n 0, 1) := by decide +kernel
theorem dX6_field_39 : decode cX6_field 39 = .ok (.aload_n 0, 1) := by decide +kernel
theorem dX6_field_40 : decode cX6_field 40 = .ok (.getfield 66, 3) := by decide +kernel
theorem dX6_field_43 : decode cX6_field 43 = .ok (.invokevirtual 159, 3) := by decide +kernel
theorem dX6_field_46 : decode cX6_field 46 = .ok (.aload_n 0, 1) := by decide +kernel
theorem dX6_field_47 : decode cX6_field 47 = .ok (.getfield 29, 3) := by decide +kernel
theorem dX6_field_50 : decode cX6_field 50 = .ok (.iconst 2, 1) := by decide +kernel
theorem dX6_field_51 : decode cX6_field 51 = .ok (.iload_n 1, 1) := by decide +kernel
theorem dX6_field_52 : decode cX6_field 52 = .ok (.imul, 1) := by decide +kernel
theorem dX6_field_53 : decode cX6_field 53 = .ok (.iload_n 2, 1) := by decide +kernel
theorem dX6_field_54 : decode cX6_field 54 = .ok (.iadd, 1) := by decide +kernel
theorem dX6_field_55 : decode cX6_field 55 = .ok (.iaload, 1) := by decide +kernel
theorem dX6_field_56 : decode cX6_field 56 = .ok (.ireturn, 1) := by decide +kernel
set_option maxRecDepth 20000 in
theorem ggX6_has_X6_fails : GoodIn wsX6_has wsX6_fails := goodIn_r _ [8, 9, 24, 25, 26, 27, 28, 29, 30, 31, 32, 33, 34, 35, 36, 37, 38, 39, 40, 41, 42, 43, 44, 45, 46, 47, 48] (by decide +kernel) (by decide +kernel)
set_option maxRecDepth 20000 in
theorem gX6_has_X6_fails : GoodIn wsX6_has (wsV RX6 152 RX6 yX6_fails wsX6_fails) := goodIn_app (goodIn_of _ (by decide +kernel)) ggX6_has_X6_fails
set_option maxRecDepth 20000 in
theorem ggX6_has_X6_take : GoodIn wsX6_has wsX6_take := goodIn_r _ [13, 14, 15, 16, 17, 18, 3, 19, 20, 21, 22, 23, 24, 25, 26, 27, 28, 29, 30, 31, 32, 33, 34, 35, 36, 37, 38, 39, 40, 41, 42, 43, 44, 45, 46, 47, 48] (by decide +kernel) (by decide +kernel)
set_option maxRecDepth 20000 in
theorem gX6_has_X6_take : GoodIn wsX6_has (wsV RX6 159 RX6 yX6_take wsX6_take) := goodIn_app (goodIn_of _ (by decide +kernel)) ggX6_has_X6_take
theorem dX6_has_0 : decode cX6_has 0 = .ok (.aload_n 0, 1) := by decide +kernel
theorem dX6_has_1 : decode cX6_has 1 = .ok (.iload_n 1, 1) := by decide +kernel
theorem dX6_has_2 : decode cX6_has 2 = .ok (.ifCond .lt 11, 3) := by decide +kernel
theorem dX6_has_5 : decode cX6_has 5 = .ok (.iload_n 1, 1) := by decide +kernel
theorem dX6_has_6 : decode cX6_has 6 = .ok (.aload_n 0, 1) := by decide +kernel
theorem dX6_has_7 : decode cX6_has 7 = .ok (.getfield 19, 3) := by decide +kernel
theorem dX6_has_10 : decode cX6_has 10 = .ok (.if_icmp .lt 7, 3) := by decide +kernel
theorem dX6_has_13 : decode cX6_has 13 = .ok (.iconst 1, 1) := by decide +kernel
theorem dX6_has_14 : decode cX6_has 14 = .ok (.goto 4, 3) := by decide +kernel
theorem dX6_has_17 : decode cX6_has 17 = .ok (.iconst 0, 1) := by decide +kernel
theorem dX6_has_18 : decode cX6_has 18 = .ok (.invokevirtual 152, 3) := by decide +kernel
theorem dX6_has_21 : decode cX6_has 21 = .ok (.ifCond .eq 5, 3) := by decide +kernel
theorem dX6_has_24 : decode cX6_has 24 = .ok (.iconst 0, 1) := by decide +kernel
theorem dX6_has_25 : decode cX6_has 25 = .ok (.ireturn, 1) := by decide +kernel
theorem dX6_has_26 : decode cX6_has 26 = .ok (.aload_n 0, 1) := by decide +kernel
theorem dX6_has_27 : decode cX6_has 27 = .ok (.aload_n 0, 1) := by decide +kernel
theorem dX6_has_28 : decode cX6_has 28 = .ok (.getfield 66, 3) := by decide +kernel
theorem dX6_has_31 : decode cX6_has 31 = .ok (.invokevirtual 159, 3) := by decide +kernel
theorem dX6_has_34 : decode cX6_has 34 = .ok (.aload_n 0, 1) := by decide +kernel
theorem dX6_has_35 : decode cX6_has 35 = .ok (.getfield 32, 3) := by decide +kernel
theorem dX6_has_38 : decode cX6_has 38 = .ok (.iload_n 1, 1) := by decide +kernel
theorem dX6_has_39 : decode cX6_has 39 = .ok (.iaload, 1) := by decide +kernel
theorem dX6_has_40 : decode cX6_has 40 = .ok (.ireturn, 1) := by decide +kernel
set_option maxRecDepth 20000 in
theorem ggX6_count_X6_fails : GoodIn wsX6_count wsX6_fails := goodIn_r _ [15, 16, 30, 31, 32, 33, 34, 35, 36, 37, 38, 39, 40, 41, 42, 43, 44, 45, 46, 47, 48, 49, 50, 51, 52, 53, 54] (by decide +kernel) (by decide +kernel)
set_option maxRecDepth 20000 in
theorem gX6_count_X6_fails : GoodIn wsX6_count (wsV RX6 152 RX6 yX6_fails wsX6_fails) := goodIn_app (goodIn_of _ (by decide +kernel)) ggX6_count_X6_fails
set_option maxRecDepth 20000 in
theorem ggX6_count_X6_take : GoodIn wsX6_count wsX6_take := goodIn_r _ [20, 21, 22, 23, 24, 25, 26, 27, 28, 29, 10, 9, 30, 31, 32, 33, 34, 35, 36, 37, 38, 39, 40, 41, 42, 43, 44, 45, 46, 47, 48, 49, 50, 51, 52, 53, 54] (by decide +kernel) (by decide +kernel)
set_option maxRecDepth 20000 in
theorem gX6_count_X6_take : GoodIn wsX6_count (wsV RX6 159 RX6 yX6_take wsX6_take) := goodIn_app (goodIn_of _ (by decide +kernel)) ggX6_count_X6_take
theorem dX6_count_0 : decode cX6_count 0 = .ok (.aload_n 0, 1) := by decide +kernel
theorem dX6_count_1 : decode cX6_count 1 = .ok (.iload_n 1, 1) := by decide +kernel
theorem dX6_count_2 : decode cX6_count 2 = .ok (.ifCond .lt 9, 3) := by decide +kernel
theorem dX6_count_5 : decode cX6_count 5 = .ok (.iload_n 1, 1) := by decide +kernel
theorem dX6_count_6 : decode cX6_count 6 = .ok (.bipush 8, 2) := by decide +kernel
theorem dX6_count_8 : decode cX6_count 8 = .ok (.if_icmp .le 7, 3) := by decide +kernel
theorem dX6_count_11 : decode cX6_count 11 = .ok (.iconst 1, 1) := by decide +kernel
theorem dX6_count_12 : decode cX6_count 12 = .ok (.goto 4, 3) := by decide +kernel
theorem dX6_count_15 : decode cX6_count 15 = .ok (.iconst 0, 1) := by decide +kernel
theorem dX6_count_16 : decode cX6_count 16 = .ok (.invokevirtual 152, 3) := by decide +kernel
theorem dX6_count_19 : decode cX6_count 19 = .ok (.ifCond .eq 5, 3) := by decide +kernel
theorem dX6_count_22 : decode cX6_count 22 = .ok (.iconst 0, 1) := by decide +kernel
theorem dX6_count_23 : decode cX6_count 23 = .ok (.ireturn, 1) := by decide +kernel
theorem dX6_count_24 : decode cX6_count 24 = .ok (.aload_n 0, 1) := by decide +kernel
theorem dX6_count_25 : decode cX6_count 25 = .ok (.aload_n 0, 1) := by decide +kernel
theorem dX6_count_26 : decode cX6_count 26 = .ok (.getfield 66, 3) := by decide +kernel
theorem dX6_count_29 : decode cX6_count 29 = .ok (.invokevirtual 159, 3) := by decide +kernel
theorem dX6_count_32 : decode cX6_count 32 = .ok (.iload_n 1, 1) := by decide +kernel
theorem dX6_count_33 : decode cX6_count 33 = .ok (.tableswitch 95 0 7 #[47, 52, 57, 62, 67, 72, 77, 82], 47) := by decide +kernel
theorem dX6_count_80 : decode cX6_count 80 = .ok (.aload_n 0, 1) := by decide +kernel
theorem dX6_count_81 : decode cX6_count 81 = .ok (.getfield 13, 3) := by decide +kernel
theorem dX6_count_84 : decode cX6_count 84 = .ok (.ireturn, 1) := by decide +kernel
theorem dX6_count_85 : decode cX6_count 85 = .ok (.aload_n 0, 1) := by decide +kernel
theorem dX6_count_86 : decode cX6_count 86 = .ok (.getfield 16, 3) := by decide +kernel
theorem dX6_count_89 : decode cX6_count 89 = .ok (.ireturn, 1) := by decide +kernel
theorem dX6_count_90 : decode cX6_count 90 = .ok (.aload_n 0, 1) := by decide +kernel
theorem dX6_count_91 : decode cX6_count 91 = .ok (.getfield 19, 3) := by decide +kernel
theorem dX6_count_94 : decode cX6_count 94 = .ok (.ireturn, 1) := by decide +kernel
theorem dX6_count_95 : decode cX6_count 95 = .ok (.aload_n 0, 1) := by decide +kernel
theorem dX6_count_96 : decode cX6_count 96 = .ok (.getfield 94, 3) := by decide +kernel
theorem dX6_count_99 : decode cX6_count 99 = .ok (.ireturn, 1) := by decide +kernel
theorem dX6_count_100 : decode cX6_count 100 = .ok (.aload_n 0, 1) := by decide +kernel
theorem dX6_count_101 : decode cX6_count 101 = .ok (.getfield 73, 3) := by decide +kernel
theorem dX6_count_104 : decode cX6_count 104 = .ok (.ireturn, 1) := by decide +kernel
theorem dX6_count_105 : decode cX6_count 105 = .ok (.aload_n 0, 1) := by decide +kernel
theorem dX6_count_106 : decode cX6_count 106 = .ok (.getfield 166, 3) := by decide +kernel
theorem dX6_count_109 : decode cX6_count 109 = .ok (.ireturn, 1) := by decide +kernel
theorem dX6_count_110 : decode cX6_count 110 = .ok (.aload_n 0, 1) := by decide +kernel
theorem dX6_count_111 : decode cX6_count 111 = .ok (.getfield 139, 3) := by decide +kernel
theorem dX6_count_114 : decode cX6_count 114 = .ok (.ireturn, 1) := by decide +kernel
theorem dX6_count_115 : decode cX6_count 115 = .ok (.aload_n 0, 1) := by decide +kernel
theorem dX6_count_116 : decode cX6_count 116 = .ok (.getfield 79, 3) := by decide +kernel
theorem dX6_count_119 : decode cX6_count 119 = .ok (.ifCond .eq 7, 3) := by decide +kernel
theorem dX6_count_122 : decode cX6_count 122 = .ok (.iconst 1, 1) := by decide +kernel
theorem dX6_count_123 : decode cX6_count 123 = .ok (.goto 4, 3) := by decide +kernel
theorem dX6_count_126 : decode cX6_count 126 = .ok (.iconst 0, 1) := by decide +kernel
theorem dX6_count_127 : decode cX6_count 127 = .ok (.ireturn, 1) := by decide +kernel
theorem dX6_count_128 : decode cX6_count 128 = .ok (.aload_n 0, 1) := by decide +kernel
theorem dX6_count_129 : decode cX6_count 129 = .ok (.getfield 76, 3) := by decide +kernel
theorem dX6_count_132 : decode cX6_count 132 = .ok (.ireturn, 1) := by decide +kernel

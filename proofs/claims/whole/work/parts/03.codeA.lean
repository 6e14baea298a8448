set_option maxRecDepth 20000 in
theorem ggX0_isBroken_X4_isOver : GoodIn wsX0_isBroken wsX4_isOver := goodIn_r _ [4] (by decide +kernel) (by decide +kernel)
set_option maxRecDepth 20000 in
theorem gX0_isBroken_X4_isOver : GoodIn wsX0_isBroken (va_wsS RX0 9 yX4_isOver wsX4_isOver) := goodIn_app (goodIn_of _ (by decide +kernel)) ggX0_isBroken_X4_isOver
set_option maxRecDepth 20000 in
theorem ggX0_isBroken_X0_needed : GoodIn wsX0_isBroken wsX0_needed := goodIn_r _ [8, 9, 10, 3, 11, 12, 13, 7, 14, 15, 16, 17] (by decide +kernel) (by decide +kernel)
set_option maxRecDepth 20000 in
theorem gX0_isBroken_X0_needed : GoodIn wsX0_isBroken (va_wsS RX0 15 yX0_needed wsX0_needed) := goodIn_app (goodIn_of _ (by decide +kernel)) ggX0_isBroken_X0_needed
set_option maxRecDepth 20000 in
theorem ggX0_isBroken_X4_whites : GoodIn wsX0_isBroken wsX4_whites := goodIn_r _ [20, 21, 22, 3, 23, 24, 25, 26] (by decide +kernel) (by decide +kernel)
set_option maxRecDepth 20000 in
theorem gX0_isBroken_X4_whites : GoodIn wsX0_isBroken (va_wsS RX0 21 yX4_whites wsX4_whites) := goodIn_app (goodIn_of _ (by decide +kernel)) ggX0_isBroken_X4_whites
set_option maxRecDepth 20000 in
theorem ggX0_isBroken_X4_blacks : GoodIn wsX0_isBroken wsX4_blacks := goodIn_r _ [26] (by decide +kernel) (by decide +kernel)
set_option maxRecDepth 20000 in
theorem gX0_isBroken_X4_blacks : GoodIn wsX0_isBroken (va_wsS RX0 24 yX4_blacks wsX4_blacks) := goodIn_app (goodIn_of _ (by decide +kernel)) ggX0_isBroken_X4_blacks
set_option maxRecDepth 20000 in
theorem ggX0_isBroken_X0_whitesIn : GoodIn wsX0_isBroken wsX0_whitesIn := goodIn_r _ [30, 15, 16, 3, 17, 18, 19, 20, 21, 22, 23, 24, 25, 26] (by decide +kernel) (by decide +kernel)
set_option maxRecDepth 20000 in
theorem gX0_isBroken_X0_whitesIn : GoodIn wsX0_isBroken (va_wsS RX0 27 yX0_whitesIn wsX0_whitesIn) := goodIn_app (goodIn_of _ (by decide +kernel)) ggX0_isBroken_X0_whitesIn
set_option maxRecDepth 20000 in
theorem ggX0_isBroken_X0_whitesBehindGreys : GoodIn wsX0_isBroken wsX0_whitesBehindGreys := goodIn_r _ [33, 34, 22, 3, 23, 28, 29, 7, 30, 15, 16, 17, 18, 19, 20, 21, 24, 25, 26, 12, 13, 14] (by decide +kernel) (by decide +kernel)
set_option maxRecDepth 20000 in
theorem gX0_isBroken_X0_whitesBehindGreys : GoodIn wsX0_isBroken (va_wsS RX0 31 yX0_whitesBehindGreys wsX0_whitesBehindGreys) := goodIn_app (goodIn_of _ (by decide +kernel)) ggX0_isBroken_X0_whitesBehindGreys
theorem dX0_isBroken_0 : decode cX0_isBroken 0 = .ok (.iload_n 2, 1) := by decide +kernel
theorem dX0_isBroken_1 : decode cX0_isBroken 1 = .ok (.tableswitch 93 0 2 #[27, 52, 69], 27) := by decide +kernel
theorem dX0_isBroken_28 : decode cX0_isBroken 28 = .ok (.lload_n 0, 1) := by decide +kernel
theorem dX0_isBroken_29 : decode cX0_isBroken 29 = .ok (.invokestatic 9, 3) := by decide +kernel
theorem dX0_isBroken_32 : decode cX0_isBroken 32 = .ok (.ifCond .eq 19, 3) := by decide +kernel
theorem dX0_isBroken_35 : decode cX0_isBroken 35 = .ok (.lload_n 0, 1) := by decide +kernel
theorem dX0_isBroken_36 : decode cX0_isBroken 36 = .ok (.invokestatic 15, 3) := by decide +kernel
theorem dX0_isBroken_39 : decode cX0_isBroken 39 = .ok (.lload_n 0, 1) := by decide +kernel
theorem dX0_isBroken_40 : decode cX0_isBroken 40 = .ok (.invokestatic 21, 3) := by decide +kernel
theorem dX0_isBroken_43 : decode cX0_isBroken 43 = .ok (.iand, 1) := by decide +kernel
theorem dX0_isBroken_44 : decode cX0_isBroken 44 = .ok (.ifCond .eq 7, 3) := by decide +kernel
theorem dX0_isBroken_47 : decode cX0_isBroken 47 = .ok (.iconst 1, 1) := by decide +kernel
theorem dX0_isBroken_48 : decode cX0_isBroken 48 = .ok (.goto 4, 3) := by decide +kernel
theorem dX0_isBroken_51 : decode cX0_isBroken 51 = .ok (.iconst 0, 1) := by decide +kernel
theorem dX0_isBroken_52 : decode cX0_isBroken 52 = .ok (.ireturn, 1) := by decide +kernel
theorem dX0_isBroken_53 : decode cX0_isBroken 53 = .ok (.lload_n 0, 1) := by decide +kernel
theorem dX0_isBroken_54 : decode cX0_isBroken 54 = .ok (.lload_n 0, 1) := by decide +kernel
theorem dX0_isBroken_55 : decode cX0_isBroken 55 = .ok (.invokestatic 24, 3) := by decide +kernel
theorem dX0_isBroken_58 : decode cX0_isBroken 58 = .ok (.invokestatic 27, 3) := by decide +kernel
theorem dX0_isBroken_61 : decode cX0_isBroken 61 = .ok (.ifCond .eq 7, 3) := by decide +kernel
theorem dX0_isBroken_64 : decode cX0_isBroken 64 = .ok (.iconst 1, 1) := by decide +kernel
theorem dX0_isBroken_65 : decode cX0_isBroken 65 = .ok (.goto 4, 3) := by decide +kernel
theorem dX0_isBroken_68 : decode cX0_isBroken 68 = .ok (.iconst 0, 1) := by decide +kernel
theorem dX0_isBroken_69 : decode cX0_isBroken 69 = .ok (.ireturn, 1) := by decide +kernel
theorem dX0_isBroken_70 : decode cX0_isBroken 70 = .ok (.lload_n 0, 1) := by decide +kernel
theorem dX0_isBroken_71 : decode cX0_isBroken 71 = .ok (.lload_n 0, 1) := by decide +kernel
theorem dX0_isBroken_72 : decode cX0_isBroken 72 = .ok (.invokestatic 24, 3) := by decide +kernel
theorem dX0_isBroken_75 : decode cX0_isBroken 75 = .ok (.invokestatic 27, 3) := by decide +kernel
theorem dX0_isBroken_78 : decode cX0_isBroken 78 = .ok (.lload_n 0, 1) := by decide +kernel
theorem dX0_isBroken_79 : decode cX0_isBroken 79 = .ok (.invokestatic 31, 3) := by decide +kernel
theorem dX0_isBroken_82 : decode cX0_isBroken 82 = .ok (.iconst (-1), 1) := by decide +kernel
theorem dX0_isBroken_83 : decode cX0_isBroken 83 = .ok (.ixor, 1) := by decide +kernel
theorem dX0_isBroken_84 : decode cX0_isBroken 84 = .ok (.iand, 1) := by decide +kernel
theorem dX0_isBroken_85 : decode cX0_isBroken 85 = .ok (.ifCond .eq 7, 3) := by decide +kernel
theorem dX0_isBroken_88 : decode cX0_isBroken 88 = .ok (.iconst 1, 1) := by decide +kernel
theorem dX0_isBroken_89 : decode cX0_isBroken 89 = .ok (.goto 4, 3) := by decide +kernel
theorem dX0_isBroken_92 : decode cX0_isBroken 92 = .ok (.iconst 0, 1) := by decide +kernel
theorem dX0_isBroken_93 : decode cX0_isBroken 93 = .ok (.ireturn, 1) := by decide +kernel
theorem dX0_isBroken_94 : decode cX0_isBroken 94 = .ok (.lload_n 0, 1) := by decide +kernel
theorem dX0_isBroken_95 : decode cX0_isBroken 95 = .ok (.invokestatic 9, 3) := by decide +kernel
theorem dX0_isBroken_98 : decode cX0_isBroken 98 = .ok (.ifCond .eq 21, 3) := by decide +kernel
theorem dX0_isBroken_101 : decode cX0_isBroken 101 = .ok (.lload_n 0, 1) := by decide +kernel
theorem dX0_isBroken_102 : decode cX0_isBroken 102 = .ok (.invokestatic 24, 3) := by decide +kernel
theorem dX0_isBroken_105 : decode cX0_isBroken 105 = .ok (.lload_n 0, 1) := by decide +kernel
theorem dX0_isBroken_106 : decode cX0_isBroken 106 = .ok (.invokestatic 15, 3) := by decide +kernel
theorem dX0_isBroken_109 : decode cX0_isBroken 109 = .ok (.iconst (-1), 1) := by decide +kernel
theorem dX0_isBroken_110 : decode cX0_isBroken 110 = .ok (.ixor, 1) := by decide +kernel
theorem dX0_isBroken_111 : decode cX0_isBroken 111 = .ok (.iand, 1) := by decide +kernel
theorem dX0_isBroken_112 : decode cX0_isBroken 112 = .ok (.ifCond .eq 7, 3) := by decide +kernel
theorem dX0_isBroken_115 : decode cX0_isBroken 115 = .ok (.iconst 1, 1) := by decide +kernel
theorem dX0_isBroken_116 : decode cX0_isBroken 116 = .ok (.goto 4, 3) := by decide +kernel
theorem dX0_isBroken_119 : decode cX0_isBroken 119 = .ok (.iconst 0, 1) := by decide +kernel
theorem dX0_isBroken_120 : decode cX0_isBroken 120 = .ok (.ireturn, 1) := by decide +kernel
set_option maxRecDepth 20000 in
theorem ggX0_needed_X4_setInRoots : GoodIn wsX0_needed wsX4_setInRoots := goodIn_r _ [4] (by decide +kernel) (by decide +kernel)
set_option maxRecDepth 20000 in
theorem gX0_needed_X4_setInRoots : GoodIn wsX0_needed (va_wsS RX0 34 yX4_setInRoots wsX4_setInRoots) := goodIn_app (goodIn_of _ (by decide +kernel)) ggX0_needed_X4_setInRoots
set_option maxRecDepth 20000 in
theorem ggX0_needed_X0_closure : GoodIn wsX0_needed wsX0_closure := goodIn_r _ [8, 9, 10, 3, 11] (by decide +kernel) (by decide +kernel)
set_option maxRecDepth 20000 in
theorem gX0_needed_X0_closure : GoodIn wsX0_needed (va_wsS RX0 37 yX0_closure wsX0_closure) := goodIn_app (goodIn_of _ (by decide +kernel)) ggX0_needed_X0_closure
theorem dX0_needed_0 : decode cX0_needed 0 = .ok (.lload_n 0, 1) := by decide +kernel
theorem dX0_needed_1 : decode cX0_needed 1 = .ok (.lload_n 0, 1) := by decide +kernel
theorem dX0_needed_2 : decode cX0_needed 2 = .ok (.invokestatic 34, 3) := by decide +kernel
theorem dX0_needed_5 : decode cX0_needed 5 = .ok (.bipush 15, 2) := by decide +kernel
theorem dX0_needed_7 : decode cX0_needed 7 = .ok (.invokestatic 37, 3) := by decide +kernel
theorem dX0_needed_10 : decode cX0_needed 10 = .ok (.ireturn, 1) := by decide +kernel
set_option maxRecDepth 20000 in
theorem ggX0_whitesIn_X4_setInFields : GoodIn wsX0_whitesIn wsX4_setInFields := goodIn_r _ [4] (by decide +kernel) (by decide +kernel)
set_option maxRecDepth 20000 in
theorem gX0_whitesIn_X4_setInFields : GoodIn wsX0_whitesIn (va_wsS RX0 41 yX4_setInFields wsX4_setInFields) := goodIn_app (goodIn_of _ (by decide +kernel)) ggX0_whitesIn_X4_setInFields
set_option maxRecDepth 20000 in
theorem ggX0_whitesIn_X4_whites : GoodIn wsX0_whitesIn wsX4_whites := goodIn_r _ [7, 8, 9, 3, 10, 11, 12, 13] (by decide +kernel) (by decide +kernel)
set_option maxRecDepth 20000 in
theorem gX0_whitesIn_X4_whites : GoodIn wsX0_whitesIn (va_wsS RX0 21 yX4_whites wsX4_whites) := goodIn_app (goodIn_of _ (by decide +kernel)) ggX0_whitesIn_X4_whites
theorem dX0_whitesIn_0 : decode cX0_whitesIn 0 = .ok (.lload_n 0, 1) := by decide +kernel
theorem dX0_whitesIn_1 : decode cX0_whitesIn 1 = .ok (.iload_n 2, 1) := by decide +kernel
theorem dX0_whitesIn_2 : decode cX0_whitesIn 2 = .ok (.invokestatic 41, 3) := by decide +kernel
theorem dX0_whitesIn_5 : decode cX0_whitesIn 5 = .ok (.lload_n 0, 1) := by decide +kernel
theorem dX0_whitesIn_6 : decode cX0_whitesIn 6 = .ok (.invokestatic 21, 3) := by decide +kernel
theorem dX0_whitesIn_9 : decode cX0_whitesIn 9 = .ok (.iand, 1) := by decide +kernel
theorem dX0_whitesIn_10 : decode cX0_whitesIn 10 = .ok (.ireturn, 1) := by decide +kernel
set_option maxRecDepth 20000 in
theorem ggX0_whitesBehindGreys_X4_greys : GoodIn wsX0_whitesBehindGreys wsX4_greys := goodIn_r _ [4] (by decide +kernel) (by decide +kernel)
set_option maxRecDepth 20000 in
theorem gX0_whitesBehindGreys_X4_greys : GoodIn wsX0_whitesBehindGreys (va_wsS RX0 44 yX4_greys wsX4_greys) := goodIn_app (goodIn_of _ (by decide +kernel)) ggX0_whitesBehindGreys_X4_greys
set_option maxRecDepth 20000 in
theorem ggX0_whitesBehindGreys_X0_whitesIn : GoodIn wsX0_whitesBehindGreys wsX0_whitesIn := goodIn_r _ [8, 9, 10, 3, 11, 12, 13, 14, 15, 2, 4, 16, 17, 18] (by decide +kernel) (by decide +kernel)
set_option maxRecDepth 20000 in
theorem gX0_whitesBehindGreys_X0_whitesIn : GoodIn wsX0_whitesBehindGreys (va_wsS RX0 27 yX0_whitesIn wsX0_whitesIn) := goodIn_app (goodIn_of _ (by decide +kernel)) ggX0_whitesBehindGreys_X0_whitesIn
set_option maxRecDepth 20000 in
theorem ggX0_whitesBehindGreys_X4_whites : GoodIn wsX0_whitesBehindGreys wsX4_whites := goodIn_r _ [14, 15, 2, 3, 4, 16, 17, 18] (by decide +kernel) (by decide +kernel)
set_option maxRecDepth 20000 in
theorem gX0_whitesBehindGreys_X4_whites : GoodIn wsX0_whitesBehindGreys (va_wsS RX0 21 yX4_whites wsX4_whites) := goodIn_app (goodIn_of _ (by decide +kernel)) ggX0_whitesBehindGreys_X4_whites
set_option maxRecDepth 20000 in
theorem ggX0_whitesBehindGreys_X0_closure : GoodIn wsX0_whitesBehindGreys wsX0_closure := goodIn_r _ [21, 9, 10, 3, 11] (by decide +kernel) (by decide +kernel)
set_option maxRecDepth 20000 in
theorem gX0_whitesBehindGreys_X0_closure : GoodIn wsX0_whitesBehindGreys (va_wsS RX0 37 yX0_closure wsX0_closure) := goodIn_app (goodIn_of _ (by decide +kernel)) ggX0_whitesBehindGreys_X0_closure
theorem dX0_whitesBehindGreys_0 : decode cX0_whitesBehindGreys 0 = .ok (.lload_n 0, 1) := by decide +kernel
theorem dX0_whitesBehindGreys_1 : decode cX0_whitesBehindGreys 1 = .ok (.lload_n 0, 1) := by decide +kernel
theorem dX0_whitesBehindGreys_2 : decode cX0_whitesBehindGreys 2 = .ok (.lload_n 0, 1) := by decide +kernel
theorem dX0_whitesBehindGreys_3 : decode cX0_whitesBehindGreys 3 = .ok (.invokestatic 44, 3) := by decide +kernel
theorem dX0_whitesBehindGreys_6 : decode cX0_whitesBehindGreys 6 = .ok (.invokestatic 27, 3) := by decide +kernel
theorem dX0_whitesBehindGreys_9 : decode cX0_whitesBehindGreys 9 = .ok (.lload_n 0, 1) := by decide +kernel
theorem dX0_whitesBehindGreys_10 : decode cX0_whitesBehindGreys 10 = .ok (.invokestatic 21, 3) := by decide +kernel
theorem dX0_whitesBehindGreys_13 : decode cX0_whitesBehindGreys 13 = .ok (.invokestatic 37, 3) := by decide +kernel
theorem dX0_whitesBehindGreys_16 : decode cX0_whitesBehindGreys 16 = .ok (.ireturn, 1) := by decide +kernel
set_option maxRecDepth 20000 in
theorem ggX0_closure_X4_setInFields : GoodIn wsX0_closure wsX4_setInFields := goodIn_r _ [4] (by decide +kernel) (by decide +kernel)
set_option maxRecDepth 20000 in
theorem gX0_closure_X4_setInFields : GoodIn wsX0_closure (va_wsS RX0 41 yX4_setInFields wsX4_setInFields) := goodIn_app (goodIn_of _ (by decide +kernel)) ggX0_closure_X4_setInFields
theorem dX0_closure_0 : decode cX0_closure 0 = .ok (.iload_n 2, 1) := by decide +kernel
theorem dX0_closure_1 : decode cX0_closure 1 = .ok (.istore 4, 2) := by decide +kernel
theorem dX0_closure_3 : decode cX0_closure 3 = .ok (.iconst 1, 1) := by decide +kernel
theorem dX0_closure_4 : decode cX0_closure 4 = .ok (.istore 5, 2) := by decide +kernel
theorem dX0_closure_6 : decode cX0_closure 6 = .ok (.iload 5, 2) := by decide +kernel
theorem dX0_closure_8 : decode cX0_closure 8 = .ok (.iconst 4, 1) := by decide +kernel
theorem dX0_closure_9 : decode cX0_closure 9 = .ok (.if_icmp .ge 22, 3) := by decide +kernel
theorem dX0_closure_12 : decode cX0_closure 12 = .ok (.iload 4, 2) := by decide +kernel
theorem dX0_closure_14 : decode cX0_closure 14 = .ok (.lload_n 0, 1) := by decide +kernel
theorem dX0_closure_15 : decode cX0_closure 15 = .ok (.iload 4, 2) := by decide +kernel
theorem dX0_closure_17 : decode cX0_closure 17 = .ok (.invokestatic 41, 3) := by decide +kernel
theorem dX0_closure_20 : decode cX0_closure 20 = .ok (.iload_n 3, 1) := by decide +kernel
theorem dX0_closure_21 : decode cX0_closure 21 = .ok (.iand, 1) := by decide +kernel
theorem dX0_closure_22 : decode cX0_closure 22 = .ok (.ior, 1) := by decide +kernel
theorem dX0_closure_23 : decode cX0_closure 23 = .ok (.istore 4, 2) := by decide +kernel
theorem dX0_closure_25 : decode cX0_closure 25 = .ok (.iinc 5 1, 3) := by decide +kernel
theorem dX0_closure_28 : decode cX0_closure 28 = .ok (.goto (-22), 3) := by decide +kernel
theorem dX0_closure_31 : decode cX0_closure 31 = .ok (.iload 4, 2) := by decide +kernel
theorem dX0_closure_33 : decode cX0_closure 33 = .ok (.ireturn, 1) := by decide +kernel
theorem dX1_init_0 : decode cX1_init 0 = .ok (.aload_n 0, 1) := by decide +kernel
theorem dX1_init_1 : decode cX1_init 1 = .ok (.invokespecial 3, 3) := by decide +kernel
theorem dX1_init_4 : decode cX1_init 4 = .ok (.aload_n 0, 1) := by decide +kernel
theorem dX1_init_5 : decode cX1_init 5 = .ok (.aload_n 1, 1) := by decide +kernel
theorem dX1_init_6 : decode cX1_init 6 = .ok (.putfield 9, 3) := by decide +kernel
theorem dX1_init_9 : decode cX1_init 9 = .ok (.return_, 1) := by decide +kernel
set_option maxRecDepth 20000 in
theorem ggX1_possibleActs_X1_lastActToTry : GoodIn wsX1_possibleActs wsX1_lastActToTry := goodIn_r _ [6, 7, 8, 9, 10, 11, 12, 13] (by decide +kernel) (by decide +kernel)
set_option maxRecDepth 20000 in
theorem gX1_possibleActs_X1_lastActToTry : GoodIn wsX1_possibleActs (wsV RX1 15 RX1 yX1_lastActToTry wsX1_lastActToTry) := goodIn_app (goodIn_of _ (by decide +kernel)) ggX1_possibleActs_X1_lastActToTry
set_option maxRecDepth 20000 in
theorem ggX1_possibleActs_X1_behind : GoodIn wsX1_possibleActs wsX1_behind := goodIn_r _ [17, 1, 11, 12, 9, 13, 18, 19, 20, 5, 21, 22, 23, 24, 25, 26, 27, 28, 29, 30, 31, 32, 33, 34, 35, 36, 37, 38, 39, 40, 41, 42, 43, 44, 45, 46, 47, 48, 49, 50, 51, 52, 53, 54, 55, 56, 57, 58, 59, 60, 61, 62, 63, 64, 65, 66, 67, 68, 69, 70, 71, 72, 73, 74, 75, 76, 7, 8, 10, 77, 78, 79, 80, 81, 82, 83, 84, 85, 86, 87, 88, 89, 90, 91, 92, 93, 94, 95, 96, 97, 98, 99, 100, 101, 102, 103, 104, 105, 106, 107, 108, 109, 110, 111, 112, 113, 114, 115, 116, 117, 118, 119, 120, 121, 122, 123, 124] (by decide +kernel) (by decide +kernel)
set_option maxRecDepth 20000 in
theorem gX1_possibleActs_X1_behind : GoodIn wsX1_possibleActs (wsV RX1 19 RX1 yX1_behind wsX1_behind) := goodIn_app (goodIn_of _ (by decide +kernel)) ggX1_possibleActs_X1_behind
theorem dX1_possibleActs_0 : decode cX1_possibleActs 0 = .ok (.iconst 0, 1) := by decide +kernel
theorem dX1_possibleActs_1 : decode cX1_possibleActs 1 = .ok (.istore_n 3, 1) := by decide +kernel
theorem dX1_possibleActs_2 : decode cX1_possibleActs 2 = .ok (.aload_n 0, 1) := by decide +kernel
theorem dX1_possibleActs_3 : decode cX1_possibleActs 3 = .ok (.lload_n 1, 1) := by decide +kernel
theorem dX1_possibleActs_4 : decode cX1_possibleActs 4 = .ok (.invokevirtual 15, 3) := by decide +kernel
theorem dX1_possibleActs_7 : decode cX1_possibleActs 7 = .ok (.istore 4, 2) := by decide +kernel
theorem dX1_possibleActs_9 : decode cX1_possibleActs 9 = .ok (.iconst 0, 1) := by decide +kernel
theorem dX1_possibleActs_10 : decode cX1_possibleActs 10 = .ok (.istore 5, 2) := by decide +kernel
theorem dX1_possibleActs_12 : decode cX1_possibleActs 12 = .ok (.iload 5, 2) := by decide +kernel
theorem dX1_possibleActs_14 : decode cX1_possibleActs 14 = .ok (.iload 4, 2) := by decide +kernel
theorem dX1_possibleActs_16 : decode cX1_possibleActs 16 = .ok (.if_icmp .gt 26, 3) := by decide +kernel
theorem dX1_possibleActs_19 : decode cX1_possibleActs 19 = .ok (.aload_n 0, 1) := by decide +kernel
theorem dX1_possibleActs_20 : decode cX1_possibleActs 20 = .ok (.lload_n 1, 1) := by decide +kernel
theorem dX1_possibleActs_21 : decode cX1_possibleActs 21 = .ok (.iload 5, 2) := by decide +kernel
theorem dX1_possibleActs_23 : decode cX1_possibleActs 23 = .ok (.invokevirtual 19, 3) := by decide +kernel
theorem dX1_possibleActs_26 : decode cX1_possibleActs 26 = .ok (.ldc2_w 23, 3) := by decide +kernel
theorem dX1_possibleActs_29 : decode cX1_possibleActs 29 = .ok (.lcmp, 1) := by decide +kernel
theorem dX1_possibleActs_30 : decode cX1_possibleActs 30 = .ok (.ifCond .eq 6, 3) := by decide +kernel
theorem dX1_possibleActs_33 : decode cX1_possibleActs 33 = .ok (.iinc 3 1, 3) := by decide +kernel
theorem dX1_possibleActs_36 : decode cX1_possibleActs 36 = .ok (.iinc 5 1, 3) := by decide +kernel
theorem dX1_possibleActs_39 : decode cX1_possibleActs 39 = .ok (.goto (-27), 3) := by decide +kernel
theorem dX1_possibleActs_42 : decode cX1_possibleActs 42 = .ok (.iload_n 3, 1) := by decide +kernel
theorem dX1_possibleActs_43 : decode cX1_possibleActs 43 = .ok (.ireturn, 1) := by decide +kernel
set_option maxRecDepth 20000 in
theorem ggX1_lastActToTry_X4_actsLeft : GoodIn wsX1_lastActToTry wsX4_actsLeft := goodIn_r _ [4] (by decide +kernel) (by decide +kernel)
set_option maxRecDepth 20000 in
theorem gX1_lastActToTry_X4_actsLeft : GoodIn wsX1_lastActToTry (va_wsS RX1 25 yX4_actsLeft wsX4_actsLeft) := goodIn_app (goodIn_of _ (by decide +kernel)) ggX1_lastActToTry_X4_actsLeft
set_option maxRecDepth 20000 in
theorem ggX1_lastActToTry_X4_isOver : GoodIn wsX1_lastActToTry wsX4_isOver := goodIn_r _ [7] (by decide +kernel) (by decide +kernel)
set_option maxRecDepth 20000 in
theorem gX1_lastActToTry_X4_isOver : GoodIn wsX1_lastActToTry (va_wsS RX1 30 yX4_isOver wsX4_isOver) := goodIn_app (goodIn_of _ (by decide +kernel)) ggX1_lastActToTry_X4_isOver
theorem dX1_lastActToTry_0 : decode cX1_lastActToTry 0 = .ok (.lload_n 1, 1) := by decide +kernel
theorem dX1_lastActToTry_1 : decode cX1_lastActToTry 1 = .ok (.invokestatic 25, 3) := by decide +kernel
theorem dX1_lastActToTry_4 : decode cX1_lastActToTry 4 = .ok (.ifCond .le 15, 3) := by decide +kernel
theorem dX1_lastActToTry_7 : decode cX1_lastActToTry 7 = .ok (.lload_n 1, 1) := by decide +kernel
theorem dX1_lastActToTry_8 : decode cX1_lastActToTry 8 = .ok (.invokestatic 30, 3) := by decide +kernel
theorem dX1_lastActToTry_11 : decode cX1_lastActToTry 11 = .ok (.ifCond .ne 8, 3) := by decide +kernel
theorem dX1_lastActToTry_14 : decode cX1_lastActToTry 14 = .ok (.bipush 49, 2) := by decide +kernel
theorem dX1_lastActToTry_16 : decode cX1_lastActToTry 16 = .ok (.goto 4, 3) := by decide +kernel
theorem dX1_lastActToTry_19 : decode cX1_lastActToTry 19 = .ok (.iconst 1, 1) := by decide +kernel
theorem dX1_lastActToTry_20 : decode cX1_lastActToTry 20 = .ok (.ireturn, 1) := by decide +kernel
set_option maxRecDepth 20000 in
theorem ggX1_behind_X4_isOver : GoodIn wsX1_behind wsX4_isOver := goodIn_r _ [5] (by decide +kernel) (by decide +kernel)
set_option maxRecDepth 20000 in
theorem gX1_behind_X4_isOver : GoodIn wsX1_behind (va_wsS RX1 30 yX4_isOver wsX4_isOver) := goodIn_app (goodIn_of _ (by decide +kernel)) ggX1_behind_X4_isOver
set_option maxRecDepth 20000 in
theorem ggX1_behind_X1_look : GoodIn wsX1_behind wsX1_look := goodIn_r _ [10, 11, 12, 1, 13, 14, 15, 4, 16, 17, 18, 19, 20, 21, 22, 23, 24, 25, 26, 27, 28, 29, 30, 31, 32, 33, 34, 35, 36, 37, 38, 39, 40, 41, 42, 43, 44, 45, 46, 47, 48, 110, 111, 112, 113, 114, 115, 116] (by decide +kernel) (by decide +kernel)
set_option maxRecDepth 20000 in
theorem gX1_behind_X1_look : GoodIn wsX1_behind (wsV RX1 34 RX1 yX1_look wsX1_look) := goodIn_app (goodIn_of _ (by decide +kernel)) ggX1_behind_X1_look
set_option maxRecDepth 20000 in
theorem ggX1_behind_X1_end : GoodIn wsX1_behind wsX1_end := goodIn_r _ [52, 11, 12, 1, 14, 15, 4, 16, 53, 54, 55, 56, 57, 58, 59, 60, 61, 21, 22, 23, 24, 25, 26, 27, 28, 29, 62, 63, 64, 65, 110, 111, 112, 113, 114, 115, 116] (by decide +kernel) (by decide +kernel)
set_option maxRecDepth 20000 in
theorem gX1_behind_X1_end : GoodIn wsX1_behind (wsV RX1 38 RX1 yX1_end wsX1_end) := goodIn_app (goodIn_of _ (by decide +kernel)) ggX1_behind_X1_end
set_option maxRecDepth 20000 in
theorem ggX1_behind_X4_actsLeft : GoodIn wsX1_behind wsX4_actsLeft := goodIn_r _ [68] (by decide +kernel) (by decide +kernel)
set_option maxRecDepth 20000 in
theorem gX1_behind_X4_actsLeft : GoodIn wsX1_behind (va_wsS RX1 25 yX4_actsLeft wsX4_actsLeft) := goodIn_app (goodIn_of _ (by decide +kernel)) ggX1_behind_X4_actsLeft
set_option maxRecDepth 20000 in
theorem ggX1_behind_X4_withActsLeft : GoodIn wsX1_behind wsX4_withActsLeft := goodIn_r _ [71, 72] (by decide +kernel) (by decide +kernel)
set_option maxRecDepth 20000 in
theorem gX1_behind_X4_withActsLeft : GoodIn wsX1_behind (va_wsS RX1 41 yX4_withActsLeft wsX4_withActsLeft) := goodIn_app (goodIn_of _ (by decide +kernel)) ggX1_behind_X4_withActsLeft
set_option maxRecDepth 20000 in
theorem ggX1_behind_X1_copy : GoodIn wsX1_behind wsX1_copy := goodIn_r _ [76, 11, 12, 1, 21, 22, 4, 23, 24, 25, 26, 77, 78, 79, 9, 80, 56, 57, 58, 59, 60, 61, 27, 28, 29, 81, 82, 83, 84, 48, 110, 111, 112, 113, 114, 115, 116] (by decide +kernel) (by decide +kernel)
set_option maxRecDepth 20000 in
theorem gX1_behind_X1_copy : GoodIn wsX1_behind (wsV RX1 44 RX1 yX1_copy wsX1_copy) := goodIn_app (goodIn_of _ (by decide +kernel)) ggX1_behind_X1_copy
set_option maxRecDepth 20000 in
theorem ggX1_behind_X1_load : GoodIn wsX1_behind wsX1_load := goodIn_r _ [88, 11, 12, 13, 1, 21, 22, 4, 23, 24, 25, 26, 36, 37, 38, 39, 40, 41, 77, 78, 79, 9, 80, 56, 57, 58, 59, 60, 61, 27, 28, 29, 81, 82, 83, 84, 48, 110, 111, 112, 113, 114, 115, 116] (by decide +kernel) (by decide +kernel)
set_option maxRecDepth 20000 in
theorem gX1_behind_X1_load : GoodIn wsX1_behind (wsV RX1 48 RX1 yX1_load wsX1_load) := goodIn_app (goodIn_of _ (by decide +kernel)) ggX1_behind_X1_load
set_option maxRecDepth 20000 in
theorem ggX1_behind_X1_store : GoodIn wsX1_behind wsX1_store := goodIn_r _ [92, 11, 12, 13, 1, 21, 22, 4, 23, 24, 25, 26, 56, 57, 58, 59, 60, 61, 36, 37, 38, 39, 40, 41, 27, 28, 29, 93, 94, 95, 96, 97, 98, 99, 100, 101, 102, 48, 103, 104, 105, 84, 110, 111, 112, 113, 114, 115, 116] (by decide +kernel) (by decide +kernel)
set_option maxRecDepth 20000 in
theorem gX1_behind_X1_store : GoodIn wsX1_behind (wsV RX1 52 RX1 yX1_store wsX1_store) := goodIn_app (goodIn_of _ (by decide +kernel)) ggX1_behind_X1_store
set_option maxRecDepth 20000 in
theorem ggX1_behind_X1_clear : GoodIn wsX1_behind wsX1_clear := goodIn_r _ [109, 11, 12, 1, 77, 78, 79, 9, 80, 56, 57, 58, 59, 60, 61, 21, 22, 4, 23, 24, 25, 26, 27, 28, 29, 81, 82, 83, 84, 48, 110, 111, 112, 113, 114, 115, 116] (by decide +kernel) (by decide +kernel)
set_option maxRecDepth 20000 in
theorem gX1_behind_X1_clear : GoodIn wsX1_behind (wsV RX1 55 RX1 yX1_clear wsX1_clear) := goodIn_app (goodIn_of _ (by decide +kernel)) ggX1_behind_X1_clear
theorem dX1_behind_0 : decode cX1_behind 0 = .ok (.lload_n 1, 1) := by decide +kernel
theorem dX1_behind_1 : decode cX1_behind 1 = .ok (.invokestatic 30, 3) := by decide +kernel
theorem dX1_behind_4 : decode cX1_behind 4 = .ok (.ifCond .eq 7, 3) := by decide +kernel
theorem dX1_behind_7 : decode cX1_behind 7 = .ok (.ldc2_w 23, 3) := by decide +kernel
theorem dX1_behind_10 : decode cX1_behind 10 = .ok (.lreturn, 1) := by decide +kernel
theorem dX1_behind_11 : decode cX1_behind 11 = .ok (.iload_n 3, 1) := by decide +kernel
theorem dX1_behind_12 : decode cX1_behind 12 = .ok (.ifCond .ne 9, 3) := by decide +kernel
theorem dX1_behind_15 : decode cX1_behind 15 = .ok (.aload_n 0, 1) := by decide +kernel
theorem dX1_behind_16 : decode cX1_behind 16 = .ok (.lload_n 1, 1) := by decide +kernel
theorem dX1_behind_17 : decode cX1_behind 17 = .ok (.invokevirtual 34, 3) := by decide +kernel
theorem dX1_behind_20 : decode cX1_behind 20 = .ok (.lreturn, 1) := by decide +kernel
theorem dX1_behind_21 : decode cX1_behind 21 = .ok (.iload_n 3, 1) := by decide +kernel
theorem dX1_behind_22 : decode cX1_behind 22 = .ok (.iconst 1, 1) := by decide +kernel
theorem dX1_behind_23 : decode cX1_behind 23 = .ok (.if_icmp .ne 9, 3) := by decide +kernel
theorem dX1_behind_26 : decode cX1_behind 26 = .ok (.aload_n 0, 1) := by decide +kernel
theorem dX1_behind_27 : decode cX1_behind 27 = .ok (.lload_n 1, 1) := by decide +kernel
theorem dX1_behind_28 : decode cX1_behind 28 = .ok (.invokevirtual 38, 3) := by decide +kernel
theorem dX1_behind_31 : decode cX1_behind 31 = .ok (.lreturn, 1) := by decide +kernel
theorem dX1_behind_32 : decode cX1_behind 32 = .ok (.lload_n 1, 1) := by decide +kernel
theorem dX1_behind_33 : decode cX1_behind 33 = .ok (.invokestatic 25, 3) := by decide +kernel
theorem dX1_behind_36 : decode cX1_behind 36 = .ok (.istore 4, 2) := by decide +kernel
theorem dX1_behind_38 : decode cX1_behind 38 = .ok (.iload 4, 2) := by decide +kernel
theorem dX1_behind_40 : decode cX1_behind 40 = .ok (.ifCond .ne 7, 3) := by decide +kernel
theorem dX1_behind_43 : decode cX1_behind 43 = .ok (.ldc2_w 23, 3) := by decide +kernel
theorem dX1_behind_46 : decode cX1_behind 46 = .ok (.lreturn, 1) := by decide +kernel
theorem dX1_behind_47 : decode cX1_behind 47 = .ok (.lload_n 1, 1) := by decide +kernel
theorem dX1_behind_48 : decode cX1_behind 48 = .ok (.iload 4, 2) := by decide +kernel
theorem dX1_behind_50 : decode cX1_behind 50 = .ok (.iconst 1, 1) := by decide +kernel
theorem dX1_behind_51 : decode cX1_behind 51 = .ok (.isub, 1) := by decide +kernel
theorem dX1_behind_52 : decode cX1_behind 52 = .ok (.invokestatic 41, 3) := by decide +kernel
theorem dX1_behind_55 : decode cX1_behind 55 = .ok (.lstore 5, 2) := by decide +kernel
theorem dX1_behind_57 : decode cX1_behind 57 = .ok (.iload_n 3, 1) := by decide +kernel
theorem dX1_behind_58 : decode cX1_behind 58 = .ok (.bipush 11, 2) := by decide +kernel
theorem dX1_behind_60 : decode cX1_behind 60 = .ok (.if_icmp .ge 23, 3) := by decide +kernel
theorem dX1_behind_63 : decode cX1_behind 63 = .ok (.iload_n 3, 1) := by decide +kernel
theorem dX1_behind_64 : decode cX1_behind 64 = .ok (.iconst 2, 1) := by decide +kernel
theorem dX1_behind_65 : decode cX1_behind 65 = .ok (.isub, 1) := by decide +kernel
theorem dX1_behind_66 : decode cX1_behind 66 = .ok (.istore 7, 2) := by decide +kernel
theorem dX1_behind_68 : decode cX1_behind 68 = .ok (.aload_n 0, 1) := by decide +kernel
theorem dX1_behind_69 : decode cX1_behind 69 = .ok (.lload 5, 2) := by decide +kernel
theorem dX1_behind_71 : decode cX1_behind 71 = .ok (.iload 7, 2) := by decide +kernel
theorem dX1_behind_73 : decode cX1_behind 73 = .ok (.iconst 3, 1) := by decide +kernel
theorem dX1_behind_74 : decode cX1_behind 74 = .ok (.idiv, 1) := by decide +kernel
theorem dX1_behind_75 : decode cX1_behind 75 = .ok (.iload 7, 2) := by decide +kernel
theorem dX1_behind_77 : decode cX1_behind 77 = .ok (.iconst 3, 1) := by decide +kernel
theorem dX1_behind_78 : decode cX1_behind 78 = .ok (.irem, 1) := by decide +kernel
theorem dX1_behind_79 : decode cX1_behind 79 = .ok (.invokevirtual 44, 3) := by decide +kernel
theorem dX1_behind_82 : decode cX1_behind 82 = .ok (.lreturn, 1) := by decide +kernel
theorem dX1_behind_83 : decode cX1_behind 83 = .ok (.iload_n 3, 1) := by decide +kernel
theorem dX1_behind_84 : decode cX1_behind 84 = .ok (.bipush 29, 2) := by decide +kernel
theorem dX1_behind_86 : decode cX1_behind 86 = .ok (.if_icmp .ge 31, 3) := by decide +kernel
theorem dX1_behind_89 : decode cX1_behind 89 = .ok (.iload_n 3, 1) := by decide +kernel
theorem dX1_behind_90 : decode cX1_behind 90 = .ok (.bipush 11, 2) := by decide +kernel
theorem dX1_behind_92 : decode cX1_behind 92 = .ok (.isub, 1) := by decide +kernel
theorem dX1_behind_93 : decode cX1_behind 93 = .ok (.istore 7, 2) := by decide +kernel
theorem dX1_behind_95 : decode cX1_behind 95 = .ok (.aload_n 0, 1) := by decide +kernel
theorem dX1_behind_96 : decode cX1_behind 96 = .ok (.lload 5, 2) := by decide +kernel
theorem dX1_behind_98 : decode cX1_behind 98 = .ok (.iload 7, 2) := by decide +kernel
theorem dX1_behind_100 : decode cX1_behind 100 = .ok (.bipush 6, 2) := by decide +kernel
theorem dX1_behind_102 : decode cX1_behind 102 = .ok (.idiv, 1) := by decide +kernel
theorem dX1_behind_103 : decode cX1_behind 103 = .ok (.iload 7, 2) := by decide +kernel
theorem dX1_behind_105 : decode cX1_behind 105 = .ok (.iconst 2, 1) := by decide +kernel
theorem dX1_behind_106 : decode cX1_behind 106 = .ok (.idiv, 1) := by decide +kernel
theorem dX1_behind_107 : decode cX1_behind 107 = .ok (.iconst 3, 1) := by decide +kernel
theorem dX1_behind_108 : decode cX1_behind 108 = .ok (.irem, 1) := by decide +kernel
theorem dX1_behind_109 : decode cX1_behind 109 = .ok (.iload 7, 2) := by decide +kernel
theorem dX1_behind_111 : decode cX1_behind 111 = .ok (.iconst 2, 1) := by decide +kernel
theorem dX1_behind_112 : decode cX1_behind 112 = .ok (.irem, 1) := by decide +kernel
theorem dX1_behind_113 : decode cX1_behind 113 = .ok (.invokevirtual 48, 3) := by decide +kernel
theorem dX1_behind_116 : decode cX1_behind 116 = .ok (.lreturn, 1) := by decide +kernel
theorem dX1_behind_117 : decode cX1_behind 117 = .ok (.iload_n 3, 1) := by decide +kernel
theorem dX1_behind_118 : decode cX1_behind 118 = .ok (.bipush 47, 2) := by decide +kernel
theorem dX1_behind_120 : decode cX1_behind 120 = .ok (.if_icmp .ge 31, 3) := by decide +kernel
theorem dX1_behind_123 : decode cX1_behind 123 = .ok (.iload_n 3, 1) := by decide +kernel
theorem dX1_behind_124 : decode cX1_behind 124 = .ok (.bipush 29, 2) := by decide +kernel
theorem dX1_behind_126 : decode cX1_behind 126 = .ok (.isub, 1) := by decide +kernel
theorem dX1_behind_127 : decode cX1_behind 127 = .ok (.istore 7, 2) := by decide +kernel
theorem dX1_behind_129 : decode cX1_behind 129 = .ok (.aload_n 0, 1) := by decide +kernel
theorem dX1_behind_130 : decode cX1_behind 130 = .ok (.lload 5, 2) := by decide +kernel
theorem dX1_behind_132 : decode cX1_behind 132 = .ok (.iload 7, 2) := by decide +kernel
theorem dX1_behind_134 : decode cX1_behind 134 = .ok (.bipush 6, 2) := by decide +kernel
theorem dX1_behind_136 : decode cX1_behind 136 = .ok (.idiv, 1) := by decide +kernel
theorem dX1_behind_137 : decode cX1_behind 137 = .ok (.iload 7, 2) := by decide +kernel
theorem dX1_behind_139 : decode cX1_behind 139 = .ok (.iconst 2, 1) := by decide +kernel
theorem dX1_behind_140 : decode cX1_behind 140 = .ok (.idiv, 1) := by decide +kernel
theorem dX1_behind_141 : decode cX1_behind 141 = .ok (.iconst 3, 1) := by decide +kernel
theorem dX1_behind_142 : decode cX1_behind 142 = .ok (.irem, 1) := by decide +kernel
theorem dX1_behind_143 : decode cX1_behind 143 = .ok (.iload 7, 2) := by decide +kernel
theorem dX1_behind_145 : decode cX1_behind 145 = .ok (.iconst 2, 1) := by decide +kernel
theorem dX1_behind_146 : decode cX1_behind 146 = .ok (.irem, 1) := by decide +kernel
theorem dX1_behind_147 : decode cX1_behind 147 = .ok (.invokevirtual 52, 3) := by decide +kernel
theorem dX1_behind_150 : decode cX1_behind 150 = .ok (.lreturn, 1) := by decide +kernel
theorem dX1_behind_151 : decode cX1_behind 151 = .ok (.aload_n 0, 1) := by decide +kernel
theorem dX1_behind_152 : decode cX1_behind 152 = .ok (.lload 5, 2) := by decide +kernel
theorem dX1_behind_154 : decode cX1_behind 154 = .ok (.iload_n 3, 1) := by decide +kernel
theorem dX1_behind_155 : decode cX1_behind 155 = .ok (.bipush 47, 2) := by decide +kernel
theorem dX1_behind_157 : decode cX1_behind 157 = .ok (.isub, 1) := by decide +kernel
theorem dX1_behind_158 : decode cX1_behind 158 = .ok (.invokevirtual 55, 3) := by decide +kernel
theorem dX1_behind_161 : decode cX1_behind 161 = .ok (.lreturn, 1) := by decide +kernel
set_option maxRecDepth 20000 in
theorem ggX1_look_X4_rootsLookedAt : GoodIn wsX1_look wsX4_rootsLookedAt := goodIn_r _ [8] (by decide +kernel) (by decide +kernel)
set_option maxRecDepth 20000 in
theorem gX1_look_X4_rootsLookedAt : GoodIn wsX1_look (va_wsS RX1 58 yX4_rootsLookedAt wsX4_rootsLookedAt) := goodIn_app (goodIn_of _ (by decide +kernel)) ggX1_look_X4_rootsLookedAt
set_option maxRecDepth 20000 in
theorem ggX1_look_X4_withOneMoreRootLookedAt : GoodIn wsX1_look wsX4_withOneMoreRootLookedAt := goodIn_r _ [11, 12] (by decide +kernel) (by decide +kernel)
set_option maxRecDepth 20000 in
theorem gX1_look_X4_withOneMoreRootLookedAt : GoodIn wsX1_look (va_wsS RX1 67 yX4_withOneMoreRootLookedAt wsX4_withOneMoreRootLookedAt) := goodIn_app (goodIn_of _ (by decide +kernel)) ggX1_look_X4_withOneMoreRootLookedAt
set_option maxRecDepth 20000 in
theorem ggX1_look_X4_inRoot : GoodIn wsX1_look wsX4_inRoot := goodIn_r _ [15, 16, 17, 7, 18] (by decide +kernel) (by decide +kernel)
set_option maxRecDepth 20000 in
theorem gX1_look_X4_inRoot : GoodIn wsX1_look (va_wsS RX1 70 yX4_inRoot wsX4_inRoot) := goodIn_app (goodIn_of _ (by decide +kernel)) ggX1_look_X4_inRoot
set_option maxRecDepth 20000 in
theorem ggX1_look_X4_greyIfWhite : GoodIn wsX1_look wsX4_greyIfWhite := goodIn_r _ [21] (by decide +kernel) (by decide +kernel)
set_option maxRecDepth 20000 in
theorem gX1_look_X4_greyIfWhite : GoodIn wsX1_look (va_wsS RX1 74 yX4_greyIfWhite wsX4_greyIfWhite) := goodIn_app (goodIn_of _ (by decide +kernel)) ggX1_look_X4_greyIfWhite
set_option maxRecDepth 20000 in
theorem ggX1_look_X4_leastGrey : GoodIn wsX1_look wsX4_leastGrey := goodIn_r _ [24] (by decide +kernel) (by decide +kernel)
set_option maxRecDepth 20000 in
theorem gX1_look_X4_leastGrey : GoodIn wsX1_look (va_wsS RX1 77 yX4_leastGrey wsX4_leastGrey) := goodIn_app (goodIn_of _ (by decide +kernel)) ggX1_look_X4_leastGrey
set_option maxRecDepth 20000 in
theorem ggX1_look_X4_fieldsLookedAt : GoodIn wsX1_look wsX4_fieldsLookedAt := goodIn_r _ [27] (by decide +kernel) (by decide +kernel)
set_option maxRecDepth 20000 in
theorem gX1_look_X4_fieldsLookedAt : GoodIn wsX1_look (va_wsS RX1 80 yX4_fieldsLookedAt wsX4_fieldsLookedAt) := goodIn_app (goodIn_of _ (by decide +kernel)) ggX1_look_X4_fieldsLookedAt
set_option maxRecDepth 20000 in
theorem ggX1_look_X4_inField : GoodIn wsX1_look wsX4_inField := goodIn_r _ [30, 31, 32, 7, 33] (by decide +kernel) (by decide +kernel)
set_option maxRecDepth 20000 in
theorem gX1_look_X4_inField : GoodIn wsX1_look (va_wsS RX1 83 yX4_inField wsX4_inField) := goodIn_app (goodIn_of _ (by decide +kernel)) ggX1_look_X4_inField
set_option maxRecDepth 20000 in
theorem ggX1_look_X4_withFirstFieldLookedAt : GoodIn wsX1_look wsX4_withFirstFieldLookedAt := goodIn_r _ [36] (by decide +kernel) (by decide +kernel)
set_option maxRecDepth 20000 in
theorem gX1_look_X4_withFirstFieldLookedAt : GoodIn wsX1_look (va_wsS RX1 90 yX4_withFirstFieldLookedAt wsX4_withFirstFieldLookedAt) := goodIn_app (goodIn_of _ (by decide +kernel)) ggX1_look_X4_withFirstFieldLookedAt
set_option maxRecDepth 20000 in
theorem ggX1_look_X4_blackened : GoodIn wsX1_look wsX4_blackened := goodIn_r _ [39, 40] (by decide +kernel) (by decide +kernel)
set_option maxRecDepth 20000 in
theorem gX1_look_X4_blackened : GoodIn wsX1_look (va_wsS RX1 93 yX4_blackened wsX4_blackened) := goodIn_app (goodIn_of _ (by decide +kernel)) ggX1_look_X4_blackened
theorem dX1_look_0 : decode cX1_look 0 = .ok (.lload_n 1, 1) := by decide +kernel
theorem dX1_look_1 : decode cX1_look 1 = .ok (.invokestatic 58, 3) := by decide +kernel
theorem dX1_look_4 : decode cX1_look 4 = .ok (.istore_n 3, 1) := by decide +kernel
theorem dX1_look_5 : decode cX1_look 5 = .ok (.iload_n 3, 1) := by decide +kernel
theorem dX1_look_6 : decode cX1_look 6 = .ok (.aload_n 0, 1) := by decide +kernel
theorem dX1_look_7 : decode cX1_look 7 = .ok (.getfield 9, 3) := by decide +kernel
theorem dX1_look_10 : decode cX1_look 10 = .ok (.getfield 61, 3) := by decide +kernel
theorem dX1_look_13 : decode cX1_look 13 = .ok (.if_icmp .ge 16, 3) := by decide +kernel
theorem dX1_look_16 : decode cX1_look 16 = .ok (.lload_n 1, 1) := by decide +kernel
theorem dX1_look_17 : decode cX1_look 17 = .ok (.invokestatic 67, 3) := by decide +kernel
theorem dX1_look_20 : decode cX1_look 20 = .ok (.lload_n 1, 1) := by decide +kernel
theorem dX1_look_21 : decode cX1_look 21 = .ok (.iload_n 3, 1) := by decide +kernel
theorem dX1_look_22 : decode cX1_look 22 = .ok (.invokestatic 70, 3) := by decide +kernel
theorem dX1_look_25 : decode cX1_look 25 = .ok (.invokestatic 74, 3) := by decide +kernel
theorem dX1_look_28 : decode cX1_look 28 = .ok (.lreturn, 1) := by decide +kernel
theorem dX1_look_29 : decode cX1_look 29 = .ok (.lload_n 1, 1) := by decide +kernel
theorem dX1_look_30 : decode cX1_look 30 = .ok (.invokestatic 77, 3) := by decide +kernel
theorem dX1_look_33 : decode cX1_look 33 = .ok (.istore 4, 2) := by decide +kernel
theorem dX1_look_35 : decode cX1_look 35 = .ok (.iload 4, 2) := by decide +kernel
theorem dX1_look_37 : decode cX1_look 37 = .ok (.iconst (-1), 1) := by decide +kernel
theorem dX1_look_38 : decode cX1_look 38 = .ok (.if_icmp .ne 7, 3) := by decide +kernel
theorem dX1_look_41 : decode cX1_look 41 = .ok (.ldc2_w 23, 3) := by decide +kernel
theorem dX1_look_44 : decode cX1_look 44 = .ok (.lreturn, 1) := by decide +kernel
theorem dX1_look_45 : decode cX1_look 45 = .ok (.lload_n 1, 1) := by decide +kernel
theorem dX1_look_46 : decode cX1_look 46 = .ok (.iload 4, 2) := by decide +kernel
theorem dX1_look_48 : decode cX1_look 48 = .ok (.invokestatic 80, 3) := by decide +kernel
theorem dX1_look_51 : decode cX1_look 51 = .ok (.istore 5, 2) := by decide +kernel
theorem dX1_look_53 : decode cX1_look 53 = .ok (.lload_n 1, 1) := by decide +kernel
theorem dX1_look_54 : decode cX1_look 54 = .ok (.lload_n 1, 1) := by decide +kernel
theorem dX1_look_55 : decode cX1_look 55 = .ok (.iload 4, 2) := by decide +kernel
theorem dX1_look_57 : decode cX1_look 57 = .ok (.iload 5, 2) := by decide +kernel
theorem dX1_look_59 : decode cX1_look 59 = .ok (.invokestatic 83, 3) := by decide +kernel
theorem dX1_look_62 : decode cX1_look 62 = .ok (.invokestatic 74, 3) := by decide +kernel
theorem dX1_look_65 : decode cX1_look 65 = .ok (.lstore 6, 2) := by decide +kernel
theorem dX1_look_67 : decode cX1_look 67 = .ok (.iload 5, 2) := by decide +kernel
theorem dX1_look_69 : decode cX1_look 69 = .ok (.iconst 1, 1) := by decide +kernel
theorem dX1_look_70 : decode cX1_look 70 = .ok (.iadd, 1) := by decide +kernel
theorem dX1_look_71 : decode cX1_look 71 = .ok (.aload_n 0, 1) := by decide +kernel
theorem dX1_look_72 : decode cX1_look 72 = .ok (.getfield 9, 3) := by decide +kernel
theorem dX1_look_75 : decode cX1_look 75 = .ok (.getfield 87, 3) := by decide +kernel
theorem dX1_look_78 : decode cX1_look 78 = .ok (.if_icmp .ge 11, 3) := by decide +kernel
theorem dX1_look_81 : decode cX1_look 81 = .ok (.lload 6, 2) := by decide +kernel
theorem dX1_look_83 : decode cX1_look 83 = .ok (.iload 4, 2) := by decide +kernel
theorem dX1_look_85 : decode cX1_look 85 = .ok (.invokestatic 90, 3) := by decide +kernel
theorem dX1_look_88 : decode cX1_look 88 = .ok (.lreturn, 1) := by decide +kernel
theorem dX1_look_89 : decode cX1_look 89 = .ok (.lload 6, 2) := by decide +kernel
theorem dX1_look_91 : decode cX1_look 91 = .ok (.iload 4, 2) := by decide +kernel
theorem dX1_look_93 : decode cX1_look 93 = .ok (.invokestatic 93, 3) := by decide +kernel
theorem dX1_look_96 : decode cX1_look 96 = .ok (.lreturn, 1) := by decide +kernel
set_option maxRecDepth 20000 in
theorem ggX1_end_X4_rootsLookedAt : GoodIn wsX1_end wsX4_rootsLookedAt := goodIn_r _ [7] (by decide +kernel) (by decide +kernel)
set_option maxRecDepth 20000 in
theorem gX1_end_X4_rootsLookedAt : GoodIn wsX1_end (va_wsS RX1 58 yX4_rootsLookedAt wsX4_rootsLookedAt) := goodIn_app (goodIn_of _ (by decide +kernel)) ggX1_end_X4_rootsLookedAt
set_option maxRecDepth 20000 in
theorem ggX1_end_X4_greys : GoodIn wsX1_end wsX4_greys := goodIn_r _ [10] (by decide +kernel) (by decide +kernel)
set_option maxRecDepth 20000 in
theorem gX1_end_X4_greys : GoodIn wsX1_end (va_wsS RX1 96 yX4_greys wsX4_greys) := goodIn_app (goodIn_of _ (by decide +kernel)) ggX1_end_X4_greys
set_option maxRecDepth 20000 in
theorem ggX1_end_X3_hasBarrier : GoodIn wsX1_end wsX3_hasBarrier := goodIn_r _ [15, 16, 31, 32, 33, 34, 35, 36] (by decide +kernel) (by decide +kernel)
set_option maxRecDepth 20000 in
theorem gX1_end_X3_hasBarrier : GoodIn wsX1_end (wsV RX1 99 RX3 yX3_hasBarrier wsX3_hasBarrier) := goodIn_app (goodIn_of _ (by decide +kernel)) ggX1_end_X3_hasBarrier
set_option maxRecDepth 20000 in
theorem ggX1_end_X4_inRoot : GoodIn wsX1_end wsX4_inRoot := goodIn_r _ [19, 20, 21, 6, 22] (by decide +kernel) (by decide +kernel)
set_option maxRecDepth 20000 in
theorem gX1_end_X4_inRoot : GoodIn wsX1_end (va_wsS RX1 70 yX4_inRoot wsX4_inRoot) := goodIn_app (goodIn_of _ (by decide +kernel)) ggX1_end_X4_inRoot
set_option maxRecDepth 20000 in
theorem ggX1_end_X4_greyIfWhite : GoodIn wsX1_end wsX4_greyIfWhite := goodIn_r _ [25] (by decide +kernel) (by decide +kernel)
set_option maxRecDepth 20000 in
theorem gX1_end_X4_greyIfWhite : GoodIn wsX1_end (va_wsS RX1 74 yX4_greyIfWhite wsX4_greyIfWhite) := goodIn_app (goodIn_of _ (by decide +kernel)) ggX1_end_X4_greyIfWhite
set_option maxRecDepth 20000 in
theorem ggX1_end_X4_ended : GoodIn wsX1_end wsX4_ended := goodIn_r _ [28, 29] (by decide +kernel) (by decide +kernel)
set_option maxRecDepth 20000 in
theorem gX1_end_X4_ended : GoodIn wsX1_end (va_wsS RX1 103 yX4_ended wsX4_ended) := goodIn_app (goodIn_of _ (by decide +kernel)) ggX1_end_X4_ended
theorem dX1_end_0 : decode cX1_end 0 = .ok (.lload_n 1, 1) := by decide +kernel
theorem dX1_end_1 : decode cX1_end 1 = .ok (.invokestatic 58, 3) := by decide +kernel
theorem dX1_end_4 : decode cX1_end 4 = .ok (.aload_n 0, 1) := by decide +kernel
theorem dX1_end_5 : decode cX1_end 5 = .ok (.getfield 9, 3) := by decide +kernel
theorem dX1_end_8 : decode cX1_end 8 = .ok (.getfield 61, 3) := by decide +kernel
theorem dX1_end_11 : decode cX1_end 11 = .ok (.if_icmp .lt 10, 3) := by decide +kernel
theorem dX1_end_14 : decode cX1_end 14 = .ok (.lload_n 1, 1) := by decide +kernel
theorem dX1_end_15 : decode cX1_end 15 = .ok (.invokestatic 96, 3) := by decide +kernel
theorem dX1_end_18 : decode cX1_end 18 = .ok (.ifCond .eq 7, 3) := by decide +kernel
theorem dX1_end_21 : decode cX1_end 21 = .ok (.ldc2_w 23, 3) := by decide +kernel
theorem dX1_end_24 : decode cX1_end 24 = .ok (.lreturn, 1) := by decide +kernel
theorem dX1_end_25 : decode cX1_end 25 = .ok (.lload_n 1, 1) := by decide +kernel
theorem dX1_end_26 : decode cX1_end 26 = .ok (.lstore_n 3, 1) := by decide +kernel
theorem dX1_end_27 : decode cX1_end 27 = .ok (.aload_n 0, 1) := by decide +kernel
theorem dX1_end_28 : decode cX1_end 28 = .ok (.getfield 9, 3) := by decide +kernel
theorem dX1_end_31 : decode cX1_end 31 = .ok (.bipush 32, 2) := by decide +kernel
theorem dX1_end_33 : decode cX1_end 33 = .ok (.invokevirtual 99, 3) := by decide +kernel
theorem dX1_end_36 : decode cX1_end 36 = .ok (.ifCond .eq 35, 3) := by decide +kernel
theorem dX1_end_39 : decode cX1_end 39 = .ok (.iconst 0, 1) := by decide +kernel
theorem dX1_end_40 : decode cX1_end 40 = .ok (.istore 5, 2) := by decide +kernel
theorem dX1_end_42 : decode cX1_end 42 = .ok (.iload 5, 2) := by decide +kernel
theorem dX1_end_44 : decode cX1_end 44 = .ok (.aload_n 0, 1) := by decide +kernel
theorem dX1_end_45 : decode cX1_end 45 = .ok (.getfield 9, 3) := by decide +kernel
theorem dX1_end_48 : decode cX1_end 48 = .ok (.getfield 61, 3) := by decide +kernel
theorem dX1_end_51 : decode cX1_end 51 = .ok (.if_icmp .ge 20, 3) := by decide +kernel
theorem dX1_end_54 : decode cX1_end 54 = .ok (.lload_n 3, 1) := by decide +kernel
theorem dX1_end_55 : decode cX1_end 55 = .ok (.lload_n 1, 1) := by decide +kernel
theorem dX1_end_56 : decode cX1_end 56 = .ok (.iload 5, 2) := by decide +kernel
theorem dX1_end_58 : decode cX1_end 58 = .ok (.invokestatic 70, 3) := by decide +kernel
theorem dX1_end_61 : decode cX1_end 61 = .ok (.invokestatic 74, 3) := by decide +kernel
theorem dX1_end_64 : decode cX1_end 64 = .ok (.lstore_n 3, 1) := by decide +kernel
theorem dX1_end_65 : decode cX1_end 65 = .ok (.iinc 5 1, 3) := by decide +kernel
theorem dX1_end_68 : decode cX1_end 68 = .ok (.goto (-26), 3) := by decide +kernel
theorem dX1_end_71 : decode cX1_end 71 = .ok (.lload_n 3, 1) := by decide +kernel
theorem dX1_end_72 : decode cX1_end 72 = .ok (.lload_n 1, 1) := by decide +kernel
theorem dX1_end_73 : decode cX1_end 73 = .ok (.lcmp, 1) := by decide +kernel
theorem dX1_end_74 : decode cX1_end 74 = .ok (.ifCond .ne 10, 3) := by decide +kernel
theorem dX1_end_77 : decode cX1_end 77 = .ok (.lload_n 1, 1) := by decide +kernel
theorem dX1_end_78 : decode cX1_end 78 = .ok (.invokestatic 103, 3) := by decide +kernel
theorem dX1_end_81 : decode cX1_end 81 = .ok (.goto 4, 3) := by decide +kernel
theorem dX1_end_84 : decode cX1_end 84 = .ok (.lload_n 3, 1) := by decide +kernel
theorem dX1_end_85 : decode cX1_end 85 = .ok (.lreturn, 1) := by decide +kernel
set_option maxRecDepth 20000 in
theorem ggX1_copy_X4_inRoot : GoodIn wsX1_copy wsX4_inRoot := goodIn_r _ [7, 8, 9, 6, 10] (by decide +kernel) (by decide +kernel)
set_option maxRecDepth 20000 in
theorem gX1_copy_X4_inRoot : GoodIn wsX1_copy (va_wsS RX1 70 yX4_inRoot wsX4_inRoot) := goodIn_app (goodIn_of _ (by decide +kernel)) ggX1_copy_X4_inRoot
set_option maxRecDepth 20000 in
theorem ggX1_copy_X1_rootGets : GoodIn wsX1_copy wsX1_rootGets := goodIn_r _ [15, 1, 16, 17, 18, 19, 20, 21, 4, 5, 6, 7, 8, 9, 10, 22, 23, 24, 25, 26, 27, 28, 29, 30, 31, 32, 33, 34, 35, 36] (by decide +kernel) (by decide +kernel)
set_option maxRecDepth 20000 in
theorem gX1_copy_X1_rootGets : GoodIn wsX1_copy (wsV RX1 106 RX1 yX1_rootGets wsX1_rootGets) := goodIn_app (goodIn_of _ (by decide +kernel)) ggX1_copy_X1_rootGets
theorem dX1_copy_0 : decode cX1_copy 0 = .ok (.iload_n 3, 1) := by decide +kernel
theorem dX1_copy_1 : decode cX1_copy 1 = .ok (.iload 4, 2) := by decide +kernel
theorem dX1_copy_3 : decode cX1_copy 3 = .ok (.if_icmp .eq 26, 3) := by decide +kernel
theorem dX1_copy_6 : decode cX1_copy 6 = .ok (.iload_n 3, 1) := by decide +kernel
theorem dX1_copy_7 : decode cX1_copy 7 = .ok (.aload_n 0, 1) := by decide +kernel
theorem dX1_copy_8 : decode cX1_copy 8 = .ok (.getfield 9, 3) := by decide +kernel
theorem dX1_copy_11 : decode cX1_copy 11 = .ok (.getfield 61, 3) := by decide +kernel
theorem dX1_copy_14 : decode cX1_copy 14 = .ok (.if_icmp .ge 15, 3) := by decide +kernel
theorem dX1_copy_17 : decode cX1_copy 17 = .ok (.iload 4, 2) := by decide +kernel
theorem dX1_copy_19 : decode cX1_copy 19 = .ok (.aload_n 0, 1) := by decide +kernel
theorem dX1_copy_20 : decode cX1_copy 20 = .ok (.getfield 9, 3) := by decide +kernel
theorem dX1_copy_23 : decode cX1_copy 23 = .ok (.getfield 61, 3) := by decide +kernel
theorem dX1_copy_26 : decode cX1_copy 26 = .ok (.if_icmp .lt 7, 3) := by decide +kernel
theorem dX1_copy_29 : decode cX1_copy 29 = .ok (.ldc2_w 23, 3) := by decide +kernel
theorem dX1_copy_32 : decode cX1_copy 32 = .ok (.lreturn, 1) := by decide +kernel
theorem dX1_copy_33 : decode cX1_copy 33 = .ok (.aload_n 0, 1) := by decide +kernel
theorem dX1_copy_34 : decode cX1_copy 34 = .ok (.lload_n 1, 1) := by decide +kernel
theorem dX1_copy_35 : decode cX1_copy 35 = .ok (.iload_n 3, 1) := by decide +kernel
theorem dX1_copy_36 : decode cX1_copy 36 = .ok (.lload_n 1, 1) := by decide +kernel
theorem dX1_copy_37 : decode cX1_copy 37 = .ok (.iload 4, 2) := by decide +kernel
theorem dX1_copy_39 : decode cX1_copy 39 = .ok (.invokestatic 70, 3) := by decide +kernel
theorem dX1_copy_42 : decode cX1_copy 42 = .ok (.invokevirtual 106, 3) := by decide +kernel
theorem dX1_copy_45 : decode cX1_copy 45 = .ok (.lreturn, 1) := by decide +kernel
set_option maxRecDepth 20000 in
theorem ggX1_load_X4_inRoot : GoodIn wsX1_load wsX4_inRoot := goodIn_r _ [8, 9, 10, 7, 11] (by decide +kernel) (by decide +kernel)
set_option maxRecDepth 20000 in
theorem gX1_load_X4_inRoot : GoodIn wsX1_load (va_wsS RX1 70 yX4_inRoot wsX4_inRoot) := goodIn_app (goodIn_of _ (by decide +kernel)) ggX1_load_X4_inRoot
set_option maxRecDepth 20000 in
theorem ggX1_load_X4_inField : GoodIn wsX1_load wsX4_inField := goodIn_r _ [14, 15, 16, 7, 17] (by decide +kernel) (by decide +kernel)
set_option maxRecDepth 20000 in
theorem gX1_load_X4_inField : GoodIn wsX1_load (va_wsS RX1 83 yX4_inField wsX4_inField) := goodIn_app (goodIn_of _ (by decide +kernel)) ggX1_load_X4_inField
set_option maxRecDepth 20000 in
theorem ggX1_load_X1_rootGets : GoodIn wsX1_load wsX1_rootGets := goodIn_r _ [22, 1, 23, 24, 25, 26, 27, 28, 5, 6, 7, 8, 9, 10, 11, 29, 30, 31, 32, 33, 34, 35, 36, 37, 38, 39, 40, 41, 42, 43] (by decide +kernel) (by decide +kernel)
set_option maxRecDepth 20000 in
theorem gX1_load_X1_rootGets : GoodIn wsX1_load (wsV RX1 106 RX1 yX1_rootGets wsX1_rootGets) := goodIn_app (goodIn_of _ (by decide +kernel)) ggX1_load_X1_rootGets
theorem dX1_load_0 : decode cX1_load 0 = .ok (.iload_n 3, 1) := by decide +kernel
theorem dX1_load_1 : decode cX1_load 1 = .ok (.aload_n 0, 1) := by decide +kernel
theorem dX1_load_2 : decode cX1_load 2 = .ok (.getfield 9, 3) := by decide +kernel
theorem dX1_load_5 : decode cX1_load 5 = .ok (.getfield 61, 3) := by decide +kernel
theorem dX1_load_8 : decode cX1_load 8 = .ok (.if_icmp .ge 27, 3) := by decide +kernel
theorem dX1_load_11 : decode cX1_load 11 = .ok (.iload 4, 2) := by decide +kernel
theorem dX1_load_13 : decode cX1_load 13 = .ok (.aload_n 0, 1) := by decide +kernel
theorem dX1_load_14 : decode cX1_load 14 = .ok (.getfield 9, 3) := by decide +kernel
theorem dX1_load_17 : decode cX1_load 17 = .ok (.getfield 61, 3) := by decide +kernel
theorem dX1_load_20 : decode cX1_load 20 = .ok (.if_icmp .ge 15, 3) := by decide +kernel
theorem dX1_load_23 : decode cX1_load 23 = .ok (.iload 5, 2) := by decide +kernel
theorem dX1_load_25 : decode cX1_load 25 = .ok (.aload_n 0, 1) := by decide +kernel
theorem dX1_load_26 : decode cX1_load 26 = .ok (.getfield 9, 3) := by decide +kernel
theorem dX1_load_29 : decode cX1_load 29 = .ok (.getfield 87, 3) := by decide +kernel
theorem dX1_load_32 : decode cX1_load 32 = .ok (.if_icmp .lt 7, 3) := by decide +kernel
theorem dX1_load_35 : decode cX1_load 35 = .ok (.ldc2_w 23, 3) := by decide +kernel
theorem dX1_load_38 : decode cX1_load 38 = .ok (.lreturn, 1) := by decide +kernel
theorem dX1_load_39 : decode cX1_load 39 = .ok (.lload_n 1, 1) := by decide +kernel
theorem dX1_load_40 : decode cX1_load 40 = .ok (.iload 4, 2) := by decide +kernel
theorem dX1_load_42 : decode cX1_load 42 = .ok (.invokestatic 70, 3) := by decide +kernel
theorem dX1_load_45 : decode cX1_load 45 = .ok (.istore 6, 2) := by decide +kernel
theorem dX1_load_47 : decode cX1_load 47 = .ok (.iload 6, 2) := by decide +kernel
theorem dX1_load_49 : decode cX1_load 49 = .ok (.iconst (-1), 1) := by decide +kernel
theorem dX1_load_50 : decode cX1_load 50 = .ok (.if_icmp .ne 7, 3) := by decide +kernel
theorem dX1_load_53 : decode cX1_load 53 = .ok (.ldc2_w 23, 3) := by decide +kernel
theorem dX1_load_56 : decode cX1_load 56 = .ok (.lreturn, 1) := by decide +kernel
theorem dX1_load_57 : decode cX1_load 57 = .ok (.aload_n 0, 1) := by decide +kernel
theorem dX1_load_58 : decode cX1_load 58 = .ok (.lload_n 1, 1) := by decide +kernel
theorem dX1_load_59 : decode cX1_load 59 = .ok (.iload_n 3, 1) := by decide +kernel
theorem dX1_load_60 : decode cX1_load 60 = .ok (.lload_n 1, 1) := by decide +kernel
theorem dX1_load_61 : decode cX1_load 61 = .ok (.iload 6, 2) := by decide +kernel
theorem dX1_load_63 : decode cX1_load 63 = .ok (.iload 5, 2) := by decide +kernel
theorem dX1_load_65 : decode cX1_load 65 = .ok (.invokestatic 83, 3) := by decide +kernel
theorem dX1_load_68 : decode cX1_load 68 = .ok (.invokevirtual 106, 3) := by decide +kernel
theorem dX1_load_71 : decode cX1_load 71 = .ok (.lreturn, 1) := by decide +kernel
set_option maxRecDepth 20000 in
theorem ggX1_clear_X1_rootGets : GoodIn wsX1_clear wsX1_rootGets := goodIn_r _ [8, 1, 9, 10, 11, 12, 13, 14, 15, 16, 17, 18, 19, 20, 21, 22, 23, 24, 25, 26, 27, 28, 29, 30, 31, 32, 33, 34, 35, 36] (by decide +kernel) (by decide +kernel)
set_option maxRecDepth 20000 in
theorem gX1_clear_X1_rootGets : GoodIn wsX1_clear (wsV RX1 106 RX1 yX1_rootGets wsX1_rootGets) := goodIn_app (goodIn_of _ (by decide +kernel)) ggX1_clear_X1_rootGets
theorem dX1_clear_0 : decode cX1_clear 0 = .ok (.iload_n 3, 1) := by decide +kernel
theorem dX1_clear_1 : decode cX1_clear 1 = .ok (.aload_n 0, 1) := by decide +kernel
theorem dX1_clear_2 : decode cX1_clear 2 = .ok (.getfield 9, 3) := by decide +kernel
theorem dX1_clear_5 : decode cX1_clear 5 = .ok (.getfield 61, 3) := by decide +kernel
theorem dX1_clear_8 : decode cX1_clear 8 = .ok (.if_icmp .lt 9, 3) := by decide +kernel
theorem dX1_clear_11 : decode cX1_clear 11 = .ok (.ldc2_w 23, 3) := by decide +kernel
theorem dX1_clear_14 : decode cX1_clear 14 = .ok (.goto 10, 3) := by decide +kernel
theorem dX1_clear_17 : decode cX1_clear 17 = .ok (.aload_n 0, 1) := by decide +kernel
theorem dX1_clear_18 : decode cX1_clear 18 = .ok (.lload_n 1, 1) := by decide +kernel
theorem dX1_clear_19 : decode cX1_clear 19 = .ok (.iload_n 3, 1) := by decide +kernel
theorem dX1_clear_20 : decode cX1_clear 20 = .ok (.iconst (-1), 1) := by decide +kernel
theorem dX1_clear_21 : decode cX1_clear 21 = .ok (.invokevirtual 106, 3) := by decide +kernel
theorem dX1_clear_24 : decode cX1_clear 24 = .ok (.lreturn, 1) := by decide +kernel
set_option maxRecDepth 20000 in
theorem ggX1_rootGets_X3_hasBarrier : GoodIn wsX1_rootGets wsX3_hasBarrier := goodIn_r _ [6, 7, 24, 25, 26, 27, 28, 29] (by decide +kernel) (by decide +kernel)
set_option maxRecDepth 20000 in
theorem gX1_rootGets_X3_hasBarrier : GoodIn wsX1_rootGets (wsV RX1 99 RX3 yX3_hasBarrier wsX3_hasBarrier) := goodIn_app (goodIn_of _ (by decide +kernel)) ggX1_rootGets_X3_hasBarrier
set_option maxRecDepth 20000 in
theorem ggX1_rootGets_X4_inRoot : GoodIn wsX1_rootGets wsX4_inRoot := goodIn_r _ [11, 12, 13, 10, 14] (by decide +kernel) (by decide +kernel)
set_option maxRecDepth 20000 in
theorem gX1_rootGets_X4_inRoot : GoodIn wsX1_rootGets (va_wsS RX1 70 yX4_inRoot wsX4_inRoot) := goodIn_app (goodIn_of _ (by decide +kernel)) ggX1_rootGets_X4_inRoot
set_option maxRecDepth 20000 in
theorem ggX1_rootGets_X4_greyIfWhite : GoodIn wsX1_rootGets wsX4_greyIfWhite := goodIn_r _ [17] (by decide +kernel) (by decide +kernel)
set_option maxRecDepth 20000 in
theorem gX1_rootGets_X4_greyIfWhite : GoodIn wsX1_rootGets (va_wsS RX1 74 yX4_greyIfWhite wsX4_greyIfWhite) := goodIn_app (goodIn_of _ (by decide +kernel)) ggX1_rootGets_X4_greyIfWhite
set_option maxRecDepth 20000 in
theorem ggX1_rootGets_X4_withRoot : GoodIn wsX1_rootGets wsX4_withRoot := goodIn_r _ [20, 21, 22, 12, 13, 10, 14] (by decide +kernel) (by decide +kernel)
set_option maxRecDepth 20000 in
theorem gX1_rootGets_X4_withRoot : GoodIn wsX1_rootGets (va_wsS RX1 109 yX4_withRoot wsX4_withRoot) := goodIn_app (goodIn_of _ (by decide +kernel)) ggX1_rootGets_X4_withRoot
theorem dX1_rootGets_0 : decode cX1_rootGets 0 = .ok (.lload_n 1, 1) := by decide +kernel
theorem dX1_rootGets_1 : decode cX1_rootGets 1 = .ok (.lstore 5, 2) := by decide +kernel
theorem dX1_rootGets_3 : decode cX1_rootGets 3 = .ok (.aload_n 0, 1) := by decide +kernel
theorem dX1_rootGets_4 : decode cX1_rootGets 4 = .ok (.getfield 9, 3) := by decide +kernel
theorem dX1_rootGets_7 : decode cX1_rootGets 7 = .ok (.bipush 64, 2) := by decide +kernel
theorem dX1_rootGets_9 : decode cX1_rootGets 9 = .ok (.invokevirtual 99, 3) := by decide +kernel
theorem dX1_rootGets_12 : decode cX1_rootGets 12 = .ok (.ifCond .eq 15, 3) := by decide +kernel
theorem dX1_rootGets_15 : decode cX1_rootGets 15 = .ok (.lload 5, 2) := by decide +kernel
theorem dX1_rootGets_17 : decode cX1_rootGets 17 = .ok (.lload_n 1, 1) := by decide +kernel
theorem dX1_rootGets_18 : decode cX1_rootGets 18 = .ok (.iload_n 3, 1) := by decide +kernel
theorem dX1_rootGets_19 : decode cX1_rootGets 19 = .ok (.invokestatic 70, 3) := by decide +kernel
theorem dX1_rootGets_22 : decode cX1_rootGets 22 = .ok (.invokestatic 74, 3) := by decide +kernel
theorem dX1_rootGets_25 : decode cX1_rootGets 25 = .ok (.lstore 5, 2) := by decide +kernel
theorem dX1_rootGets_27 : decode cX1_rootGets 27 = .ok (.aload_n 0, 1) := by decide +kernel
theorem dX1_rootGets_28 : decode cX1_rootGets 28 = .ok (.getfield 9, 3) := by decide +kernel
theorem dX1_rootGets_31 : decode cX1_rootGets 31 = .ok (.bipush 16, 2) := by decide +kernel
theorem dX1_rootGets_33 : decode cX1_rootGets 33 = .ok (.invokevirtual 99, 3) := by decide +kernel
theorem dX1_rootGets_36 : decode cX1_rootGets 36 = .ok (.ifCond .eq 12, 3) := by decide +kernel
theorem dX1_rootGets_39 : decode cX1_rootGets 39 = .ok (.lload 5, 2) := by decide +kernel
theorem dX1_rootGets_41 : decode cX1_rootGets 41 = .ok (.iload 4, 2) := by decide +kernel
theorem dX1_rootGets_43 : decode cX1_rootGets 43 = .ok (.invokestatic 74, 3) := by decide +kernel
theorem dX1_rootGets_46 : decode cX1_rootGets 46 = .ok (.lstore 5, 2) := by decide +kernel
theorem dX1_rootGets_48 : decode cX1_rootGets 48 = .ok (.lload 5, 2) := by decide +kernel
theorem dX1_rootGets_50 : decode cX1_rootGets 50 = .ok (.iload_n 3, 1) := by decide +kernel
theorem dX1_rootGets_51 : decode cX1_rootGets 51 = .ok (.iload 4, 2) := by decide +kernel
theorem dX1_rootGets_53 : decode cX1_rootGets 53 = .ok (.invokestatic 109, 3) := by decide +kernel
theorem dX1_rootGets_56 : decode cX1_rootGets 56 = .ok (.lreturn, 1) := by decide +kernel
set_option maxRecDepth 20000 in
theorem ggX1_store_X4_inRoot : GoodIn wsX1_store wsX4_inRoot := goodIn_r _ [8, 9, 10, 7, 11] (by decide +kernel) (by decide +kernel)
set_option maxRecDepth 20000 in
theorem gX1_store_X4_inRoot : GoodIn wsX1_store (va_wsS RX1 70 yX4_inRoot wsX4_inRoot) := goodIn_app (goodIn_of _ (by decide +kernel)) ggX1_store_X4_inRoot
set_option maxRecDepth 20000 in
theorem ggX1_store_X3_hasBarrier : GoodIn wsX1_store wsX3_hasBarrier := goodIn_r _ [16, 17, 43, 44, 45, 46, 47, 48] (by decide +kernel) (by decide +kernel)
set_option maxRecDepth 20000 in
theorem gX1_store_X3_hasBarrier : GoodIn wsX1_store (wsV RX1 99 RX3 yX3_hasBarrier wsX3_hasBarrier) := goodIn_app (goodIn_of _ (by decide +kernel)) ggX1_store_X3_hasBarrier
set_option maxRecDepth 20000 in
theorem ggX1_store_X4_inField : GoodIn wsX1_store wsX4_inField := goodIn_r _ [20, 21, 22, 7, 23] (by decide +kernel) (by decide +kernel)
set_option maxRecDepth 20000 in
theorem gX1_store_X4_inField : GoodIn wsX1_store (va_wsS RX1 83 yX4_inField wsX4_inField) := goodIn_app (goodIn_of _ (by decide +kernel)) ggX1_store_X4_inField
set_option maxRecDepth 20000 in
theorem ggX1_store_X4_greyIfWhite : GoodIn wsX1_store wsX4_greyIfWhite := goodIn_r _ [26] (by decide +kernel) (by decide +kernel)
set_option maxRecDepth 20000 in
theorem gX1_store_X4_greyIfWhite : GoodIn wsX1_store (va_wsS RX1 74 yX4_greyIfWhite wsX4_greyIfWhite) := goodIn_app (goodIn_of _ (by decide +kernel)) ggX1_store_X4_greyIfWhite
set_option maxRecDepth 20000 in
theorem ggX1_store_X4_isBlack : GoodIn wsX1_store wsX4_isBlack := goodIn_r _ [29] (by decide +kernel) (by decide +kernel)
set_option maxRecDepth 20000 in
theorem gX1_store_X4_isBlack : GoodIn wsX1_store (va_wsS RX1 112 yX4_isBlack wsX4_isBlack) := goodIn_app (goodIn_of _ (by decide +kernel)) ggX1_store_X4_isBlack
set_option maxRecDepth 20000 in
theorem ggX1_store_X4_isWhite : GoodIn wsX1_store wsX4_isWhite := goodIn_r _ [32, 33, 25, 7, 26] (by decide +kernel) (by decide +kernel)
set_option maxRecDepth 20000 in
theorem gX1_store_X4_isWhite : GoodIn wsX1_store (va_wsS RX1 116 yX4_isWhite wsX4_isWhite) := goodIn_app (goodIn_of _ (by decide +kernel)) ggX1_store_X4_isWhite
set_option maxRecDepth 20000 in
theorem ggX1_store_X4_greyAgain : GoodIn wsX1_store wsX4_greyAgain := goodIn_r _ [36, 37] (by decide +kernel) (by decide +kernel)
set_option maxRecDepth 20000 in
theorem gX1_store_X4_greyAgain : GoodIn wsX1_store (va_wsS RX1 119 yX4_greyAgain wsX4_greyAgain) := goodIn_app (goodIn_of _ (by decide +kernel)) ggX1_store_X4_greyAgain
set_option maxRecDepth 20000 in
theorem ggX1_store_X4_withField : GoodIn wsX1_store wsX4_withField := goodIn_r _ [40, 41, 37, 21, 22, 7, 23] (by decide +kernel) (by decide +kernel)
set_option maxRecDepth 20000 in
theorem gX1_store_X4_withField : GoodIn wsX1_store (va_wsS RX1 122 yX4_withField wsX4_withField) := goodIn_app (goodIn_of _ (by decide +kernel)) ggX1_store_X4_withField
theorem dX1_store_0 : decode cX1_store 0 = .ok (.iload_n 3, 1) := by decide +kernel
theorem dX1_store_1 : decode cX1_store 1 = .ok (.aload_n 0, 1) := by decide +kernel
theorem dX1_store_2 : decode cX1_store 2 = .ok (.getfield 9, 3) := by decide +kernel
theorem dX1_store_5 : decode cX1_store 5 = .ok (.getfield 61, 3) := by decide +kernel
theorem dX1_store_8 : decode cX1_store 8 = .ok (.if_icmp .ge 27, 3) := by decide +kernel
theorem dX1_store_11 : decode cX1_store 11 = .ok (.iload 4, 2) := by decide +kernel
theorem dX1_store_13 : decode cX1_store 13 = .ok (.aload_n 0, 1) := by decide +kernel
theorem dX1_store_14 : decode cX1_store 14 = .ok (.getfield 9, 3) := by decide +kernel
theorem dX1_store_17 : decode cX1_store 17 = .ok (.getfield 61, 3) := by decide +kernel
theorem dX1_store_20 : decode cX1_store 20 = .ok (.if_icmp .ge 15, 3) := by decide +kernel
theorem dX1_store_23 : decode cX1_store 23 = .ok (.iload 5, 2) := by decide +kernel
theorem dX1_store_25 : decode cX1_store 25 = .ok (.aload_n 0, 1) := by decide +kernel
theorem dX1_store_26 : decode cX1_store 26 = .ok (.getfield 9, 3) := by decide +kernel
theorem dX1_store_29 : decode cX1_store 29 = .ok (.getfield 87, 3) := by decide +kernel
theorem dX1_store_32 : decode cX1_store 32 = .ok (.if_icmp .lt 7, 3) := by decide +kernel
theorem dX1_store_35 : decode cX1_store 35 = .ok (.ldc2_w 23, 3) := by decide +kernel
theorem dX1_store_38 : decode cX1_store 38 = .ok (.lreturn, 1) := by decide +kernel
theorem dX1_store_39 : decode cX1_store 39 = .ok (.lload_n 1, 1) := by decide +kernel
theorem dX1_store_40 : decode cX1_store 40 = .ok (.iload_n 3, 1) := by decide +kernel
theorem dX1_store_41 : decode cX1_store 41 = .ok (.invokestatic 70, 3) := by decide +kernel
theorem dX1_store_44 : decode cX1_store 44 = .ok (.istore 6, 2) := by decide +kernel
theorem dX1_store_46 : decode cX1_store 46 = .ok (.iload 6, 2) := by decide +kernel
theorem dX1_store_48 : decode cX1_store 48 = .ok (.iconst (-1), 1) := by decide +kernel
theorem dX1_store_49 : decode cX1_store 49 = .ok (.if_icmp .ne 7, 3) := by decide +kernel
theorem dX1_store_52 : decode cX1_store 52 = .ok (.ldc2_w 23, 3) := by decide +kernel
theorem dX1_store_55 : decode cX1_store 55 = .ok (.lreturn, 1) := by decide +kernel
theorem dX1_store_56 : decode cX1_store 56 = .ok (.lload_n 1, 1) := by decide +kernel
theorem dX1_store_57 : decode cX1_store 57 = .ok (.iload 4, 2) := by decide +kernel
theorem dX1_store_59 : decode cX1_store 59 = .ok (.invokestatic 70, 3) := by decide +kernel
theorem dX1_store_62 : decode cX1_store 62 = .ok (.istore 7, 2) := by decide +kernel
theorem dX1_store_64 : decode cX1_store 64 = .ok (.lload_n 1, 1) := by decide +kernel
theorem dX1_store_65 : decode cX1_store 65 = .ok (.lstore 8, 2) := by decide +kernel
theorem dX1_store_67 : decode cX1_store 67 = .ok (.aload_n 0, 1) := by decide +kernel
theorem dX1_store_68 : decode cX1_store 68 = .ok (.getfield 9, 3) := by decide +kernel
theorem dX1_store_71 : decode cX1_store 71 = .ok (.iconst 1, 1) := by decide +kernel
theorem dX1_store_72 : decode cX1_store 72 = .ok (.invokevirtual 99, 3) := by decide +kernel
theorem dX1_store_75 : decode cX1_store 75 = .ok (.ifCond .eq 18, 3) := by decide +kernel
theorem dX1_store_78 : decode cX1_store 78 = .ok (.lload 8, 2) := by decide +kernel
theorem dX1_store_80 : decode cX1_store 80 = .ok (.lload_n 1, 1) := by decide +kernel
theorem dX1_store_81 : decode cX1_store 81 = .ok (.iload 6, 2) := by decide +kernel
theorem dX1_store_83 : decode cX1_store 83 = .ok (.iload 5, 2) := by decide +kernel
theorem dX1_store_85 : decode cX1_store 85 = .ok (.invokestatic 83, 3) := by decide +kernel
theorem dX1_store_88 : decode cX1_store 88 = .ok (.invokestatic 74, 3) := by decide +kernel
theorem dX1_store_91 : decode cX1_store 91 = .ok (.lstore 8, 2) := by decide +kernel
theorem dX1_store_93 : decode cX1_store 93 = .ok (.aload_n 0, 1) := by decide +kernel
theorem dX1_store_94 : decode cX1_store 94 = .ok (.getfield 9, 3) := by decide +kernel
theorem dX1_store_97 : decode cX1_store 97 = .ok (.iconst 2, 1) := by decide +kernel
theorem dX1_store_98 : decode cX1_store 98 = .ok (.invokevirtual 99, 3) := by decide +kernel
theorem dX1_store_101 : decode cX1_store 101 = .ok (.ifCond .eq 12, 3) := by decide +kernel
theorem dX1_store_104 : decode cX1_store 104 = .ok (.lload 8, 2) := by decide +kernel
theorem dX1_store_106 : decode cX1_store 106 = .ok (.iload 7, 2) := by decide +kernel
theorem dX1_store_108 : decode cX1_store 108 = .ok (.invokestatic 74, 3) := by decide +kernel
theorem dX1_store_111 : decode cX1_store 111 = .ok (.lstore 8, 2) := by decide +kernel
theorem dX1_store_113 : decode cX1_store 113 = .ok (.aload_n 0, 1) := by decide +kernel
theorem dX1_store_114 : decode cX1_store 114 = .ok (.getfield 9, 3) := by decide +kernel
theorem dX1_store_117 : decode cX1_store 117 = .ok (.iconst 4, 1) := by decide +kernel
theorem dX1_store_118 : decode cX1_store 118 = .ok (.invokevirtual 99, 3) := by decide +kernel
theorem dX1_store_121 : decode cX1_store 121 = .ok (.ifCond .eq 22, 3) := by decide +kernel
theorem dX1_store_124 : decode cX1_store 124 = .ok (.lload 8, 2) := by decide +kernel
theorem dX1_store_126 : decode cX1_store 126 = .ok (.iload 6, 2) := by decide +kernel
theorem dX1_store_128 : decode cX1_store 128 = .ok (.invokestatic 112, 3) := by decide +kernel
theorem dX1_store_131 : decode cX1_store 131 = .ok (.ifCond .eq 12, 3) := by decide +kernel
theorem dX1_store_134 : decode cX1_store 134 = .ok (.lload 8, 2) := by decide +kernel
theorem dX1_store_136 : decode cX1_store 136 = .ok (.iload 7, 2) := by decide +kernel
theorem dX1_store_138 : decode cX1_store 138 = .ok (.invokestatic 74, 3) := by decide +kernel
theorem dX1_store_141 : decode cX1_store 141 = .ok (.lstore 8, 2) := by decide +kernel
theorem dX1_store_143 : decode cX1_store 143 = .ok (.aload_n 0, 1) := by decide +kernel
theorem dX1_store_144 : decode cX1_store 144 = .ok (.getfield 9, 3) := by decide +kernel
theorem dX1_store_147 : decode cX1_store 147 = .ok (.bipush 8, 2) := by decide +kernel
theorem dX1_store_149 : decode cX1_store 149 = .ok (.invokevirtual 99, 3) := by decide +kernel
theorem dX1_store_152 : decode cX1_store 152 = .ok (.ifCond .eq 32, 3) := by decide +kernel
theorem dX1_store_155 : decode cX1_store 155 = .ok (.lload 8, 2) := by decide +kernel
theorem dX1_store_157 : decode cX1_store 157 = .ok (.iload 6, 2) := by decide +kernel
theorem dX1_store_159 : decode cX1_store 159 = .ok (.invokestatic 112, 3) := by decide +kernel
theorem dX1_store_162 : decode cX1_store 162 = .ok (.ifCond .eq 22, 3) := by decide +kernel
theorem dX1_store_165 : decode cX1_store 165 = .ok (.lload 8, 2) := by decide +kernel
theorem dX1_store_167 : decode cX1_store 167 = .ok (.iload 7, 2) := by decide +kernel
theorem dX1_store_169 : decode cX1_store 169 = .ok (.invokestatic 116, 3) := by decide +kernel
theorem dX1_store_172 : decode cX1_store 172 = .ok (.ifCond .eq 12, 3) := by decide +kernel
theorem dX1_store_175 : decode cX1_store 175 = .ok (.lload 8, 2) := by decide +kernel
theorem dX1_store_177 : decode cX1_store 177 = .ok (.iload 6, 2) := by decide +kernel
theorem dX1_store_179 : decode cX1_store 179 = .ok (.invokestatic 119, 3) := by decide +kernel
theorem dX1_store_182 : decode cX1_store 182 = .ok (.lstore 8, 2) := by decide +kernel
theorem dX1_store_184 : decode cX1_store 184 = .ok (.lload 8, 2) := by decide +kernel
theorem dX1_store_186 : decode cX1_store 186 = .ok (.iload 6, 2) := by decide +kernel
theorem dX1_store_188 : decode cX1_store 188 = .ok (.iload 5, 2) := by decide +kernel
theorem dX1_store_190 : decode cX1_store 190 = .ok (.iload 7, 2) := by decide +kernel
theorem dX1_store_192 : decode cX1_store 192 = .ok (.invokestatic 122, 3) := by decide +kernel
theorem dX1_store_195 : decode cX1_store 195 = .ok (.lreturn, 1) := by decide +kernel
theorem dX2_init_0 : decode cX2_init 0 = .ok (.aload_n 0, 1) := by decide +kernel
theorem dX2_init_1 : decode cX2_init 1 = .ok (.invokespecial 1, 3) := by decide +kernel
theorem dX2_init_4 : decode cX2_init 4 = .ok (.aload_n 0, 1) := by decide +kernel
theorem dX2_init_5 : decode cX2_init 5 = .ok (.sipush 20000, 3) := by decide +kernel
theorem dX2_init_8 : decode cX2_init 8 = .ok (.newarray .long, 2) := by decide +kernel
theorem dX2_init_10 : decode cX2_init 10 = .ok (.putfield 9, 3) := by decide +kernel
theorem dX2_init_13 : decode cX2_init 13 = .ok (.aload_n 0, 1) := by decide +kernel
theorem dX2_init_14 : decode cX2_init 14 = .ok (.sipush 20000, 3) := by decide +kernel
theorem dX2_init_17 : decode cX2_init 17 = .ok (.newarray .int, 2) := by decide +kernel
theorem dX2_init_19 : decode cX2_init 19 = .ok (.putfield 13, 3) := by decide +kernel
theorem dX2_init_22 : decode cX2_init 22 = .ok (.aload_n 0, 1) := by decide +kernel
theorem dX2_init_23 : decode cX2_init 23 = .ok (.ldc 17, 2) := by decide +kernel
theorem dX2_init_25 : decode cX2_init 25 = .ok (.newarray .int, 2) := by decide +kernel
theorem dX2_init_27 : decode cX2_init 27 = .ok (.putfield 18, 3) := by decide +kernel
theorem dX2_init_30 : decode cX2_init 30 = .ok (.aload_n 0, 1) := by decide +kernel
theorem dX2_init_31 : decode cX2_init 31 = .ok (.iconst 0, 1) := by decide +kernel
theorem dX2_init_32 : decode cX2_init 32 = .ok (.putfield 21, 3) := by decide +kernel
theorem dX2_init_35 : decode cX2_init 35 = .ok (.aload_n 0, 1) := by decide +kernel
theorem dX2_init_36 : decode cX2_init 36 = .ok (.bipush 40, 2) := by decide +kernel
theorem dX2_init_38 : decode cX2_init 38 = .ok (.newarray .int, 2) := by decide +kernel
theorem dX2_init_40 : decode cX2_init 40 = .ok (.putfield 25, 3) := by decide +kernel
theorem dX2_init_43 : decode cX2_init 43 = .ok (.aload_n 0, 1) := by decide +kernel
theorem dX2_init_44 : decode cX2_init 44 = .ok (.iconst 0, 1) := by decide +kernel
theorem dX2_init_45 : decode cX2_init 45 = .ok (.putfield 28, 3) := by decide +kernel
theorem dX2_init_48 : decode cX2_init 48 = .ok (.aload_n 0, 1) := by decide +kernel
theorem dX2_init_49 : decode cX2_init 49 = .ok (.aload_n 1, 1) := by decide +kernel
theorem dX2_init_50 : decode cX2_init 50 = .ok (.putfield 31, 3) := by decide +kernel
theorem dX2_init_53 : decode cX2_init 53 = .ok (.return_, 1) := by decide +kernel
set_option maxRecDepth 20000 in
theorem ggX2_shortestRow_J7_fill_53178 : GoodIn wsX2_shortestRow wsJ7_fill_53178 := goodIn_r _ [7] (by decide +kernel) (by decide +kernel)
set_option maxRecDepth 20000 in
theorem gX2_shortestRow_J7_fill_53178 : GoodIn wsX2_shortestRow (va_wsS RX2 35 yJ7_fill_53178 wsJ7_fill_53178) := goodIn_app (goodIn_of _ (by decide +kernel)) ggX2_shortestRow_J7_fill_53178
set_option maxRecDepth 20000 in
theorem ggX2_shortestRow_X2_slotFor : GoodIn wsX2_shortestRow wsX2_slotFor := goodIn_r _ [12, 13, 14, 1, 15, 181, 182, 183, 184, 185, 186, 187] (by decide +kernel) (by decide +kernel)
set_option maxRecDepth 20000 in
theorem gX2_shortestRow_X2_slotFor : GoodIn wsX2_shortestRow (wsV RX2 41 RX2 yX2_slotFor wsX2_slotFor) := goodIn_app (goodIn_of _ (by decide +kernel)) ggX2_shortestRow_X2_slotFor
set_option maxRecDepth 20000 in
theorem ggX2_shortestRow_X2_keep : GoodIn wsX2_shortestRow wsX2_keep := goodIn_r _ [19, 2, 15, 20, 1, 181, 182, 183, 184, 185, 186, 187] (by decide +kernel) (by decide +kernel)
set_option maxRecDepth 20000 in
theorem gX2_shortestRow_X2_keep : GoodIn wsX2_shortestRow (wsV RX2 45 RX2 yX2_keep wsX2_keep) := goodIn_app (goodIn_of _ (by decide +kernel)) ggX2_shortestRow_X2_keep
set_option maxRecDepth 20000 in
theorem ggX2_shortestRow_X2_goOnFrom : GoodIn wsX2_shortestRow wsX2_goOnFrom := goodIn_r _ [24, 15, 25, 26, 1, 3, 27, 28, 29, 30, 31, 32, 33, 34, 35, 36, 37, 38, 39, 40, 41, 42, 43, 44, 45, 46, 47, 48, 49, 50, 51, 52, 53, 54, 55, 56, 57, 58, 59, 60, 61, 62, 63, 64, 65, 66, 67, 68, 69, 70, 71, 72, 73, 74, 75, 76, 77, 78, 79, 80, 81, 82, 83, 84, 85, 86, 87, 88, 89, 90, 91, 92, 93, 94, 95, 96, 97, 98, 99, 100, 101, 102, 103, 104, 105, 106, 107, 108, 109, 110, 111, 112, 113, 114, 115, 116, 117, 118, 119, 120, 121, 122, 123, 124, 125, 126, 127, 128, 129, 130, 131, 132, 133, 134, 135, 136, 137, 138, 139, 140, 141, 142, 143, 8, 9, 10, 11, 12, 13, 14, 16, 17, 18, 19, 2, 20, 144, 145, 146, 147, 148, 149, 150, 151, 152, 153, 154, 155, 156, 157, 158, 159, 160, 161, 162, 163, 164, 165, 166, 167, 168, 169, 170, 171, 172, 173, 174, 175, 176, 177, 178, 179, 180, 181, 182, 183, 184, 185, 186, 187, 188, 189, 190, 191, 192, 193, 194] (by decide +kernel) (by decide +kernel)
set_option maxRecDepth 20000 in
theorem gX2_shortestRow_X2_goOnFrom : GoodIn wsX2_shortestRow (wsV RX2 49 RX2 yX2_goOnFrom wsX2_goOnFrom) := goodIn_app (goodIn_of _ (by decide +kernel)) ggX2_shortestRow_X2_goOnFrom
theorem dX2_shortestRow_0 : decode cX2_shortestRow 0 = .ok (.aload_n 0, 1) := by decide +kernel
theorem dX2_shortestRow_1 : decode cX2_shortestRow 1 = .ok (.getfield 18, 3) := by decide +kernel
theorem dX2_shortestRow_4 : decode cX2_shortestRow 4 = .ok (.iconst 0, 1) := by decide +kernel
theorem dX2_shortestRow_5 : decode cX2_shortestRow 5 = .ok (.invokestatic 35, 3) := by decide +kernel
theorem dX2_shortestRow_8 : decode cX2_shortestRow 8 = .ok (.aload_n 0, 1) := by decide +kernel
theorem dX2_shortestRow_9 : decode cX2_shortestRow 9 = .ok (.iconst 0, 1) := by decide +kernel
theorem dX2_shortestRow_10 : decode cX2_shortestRow 10 = .ok (.putfield 21, 3) := by decide +kernel
theorem dX2_shortestRow_13 : decode cX2_shortestRow 13 = .ok (.aload_n 0, 1) := by decide +kernel
theorem dX2_shortestRow_14 : decode cX2_shortestRow 14 = .ok (.iconst 0, 1) := by decide +kernel
theorem dX2_shortestRow_15 : decode cX2_shortestRow 15 = .ok (.putfield 28, 3) := by decide +kernel
theorem dX2_shortestRow_18 : decode cX2_shortestRow 18 = .ok (.aload_n 0, 1) := by decide +kernel
theorem dX2_shortestRow_19 : decode cX2_shortestRow 19 = .ok (.lload_n 1, 1) := by decide +kernel
theorem dX2_shortestRow_20 : decode cX2_shortestRow 20 = .ok (.aload_n 0, 1) := by decide +kernel
theorem dX2_shortestRow_21 : decode cX2_shortestRow 21 = .ok (.lload_n 1, 1) := by decide +kernel
theorem dX2_shortestRow_22 : decode cX2_shortestRow 22 = .ok (.invokevirtual 41, 3) := by decide +kernel
theorem dX2_shortestRow_25 : decode cX2_shortestRow 25 = .ok (.iconst 0, 1) := by decide +kernel
theorem dX2_shortestRow_26 : decode cX2_shortestRow 26 = .ok (.iconst 0, 1) := by decide +kernel
theorem dX2_shortestRow_27 : decode cX2_shortestRow 27 = .ok (.invokevirtual 45, 3) := by decide +kernel
theorem dX2_shortestRow_30 : decode cX2_shortestRow 30 = .ok (.pop, 1) := by decide +kernel
theorem dX2_shortestRow_31 : decode cX2_shortestRow 31 = .ok (.iconst 0, 1) := by decide +kernel
theorem dX2_shortestRow_32 : decode cX2_shortestRow 32 = .ok (.istore 4, 2) := by decide +kernel
theorem dX2_shortestRow_34 : decode cX2_shortestRow 34 = .ok (.iload 4, 2) := by decide +kernel
theorem dX2_shortestRow_36 : decode cX2_shortestRow 36 = .ok (.aload_n 0, 1) := by decide +kernel
theorem dX2_shortestRow_37 : decode cX2_shortestRow 37 = .ok (.getfield 21, 3) := by decide +kernel
theorem dX2_shortestRow_40 : decode cX2_shortestRow 40 = .ok (.if_icmp .ge 36, 3) := by decide +kernel
theorem dX2_shortestRow_43 : decode cX2_shortestRow 43 = .ok (.iload 4, 2) := by decide +kernel
theorem dX2_shortestRow_45 : decode cX2_shortestRow 45 = .ok (.sipush 20000, 3) := by decide +kernel
theorem dX2_shortestRow_48 : decode cX2_shortestRow 48 = .ok (.if_icmp .ge 28, 3) := by decide +kernel
theorem dX2_shortestRow_51 : decode cX2_shortestRow 51 = .ok (.aload_n 0, 1) := by decide +kernel
theorem dX2_shortestRow_52 : decode cX2_shortestRow 52 = .ok (.iload 4, 2) := by decide +kernel
theorem dX2_shortestRow_54 : decode cX2_shortestRow 54 = .ok (.iload_n 3, 1) := by decide +kernel
theorem dX2_shortestRow_55 : decode cX2_shortestRow 55 = .ok (.invokevirtual 49, 3) := by decide +kernel
theorem dX2_shortestRow_58 : decode cX2_shortestRow 58 = .ok (.istore 5, 2) := by decide +kernel
theorem dX2_shortestRow_60 : decode cX2_shortestRow 60 = .ok (.iload 5, 2) := by decide +kernel
theorem dX2_shortestRow_62 : decode cX2_shortestRow 62 = .ok (.bipush (-3), 2) := by decide +kernel
theorem dX2_shortestRow_64 : decode cX2_shortestRow 64 = .ok (.if_icmp .eq 6, 3) := by decide +kernel
theorem dX2_shortestRow_67 : decode cX2_shortestRow 67 = .ok (.iload 5, 2) := by decide +kernel
theorem dX2_shortestRow_69 : decode cX2_shortestRow 69 = .ok (.ireturn, 1) := by decide +kernel
theorem dX2_shortestRow_70 : decode cX2_shortestRow 70 = .ok (.iinc 4 1, 3) := by decide +kernel
theorem dX2_shortestRow_73 : decode cX2_shortestRow 73 = .ok (.goto (-39), 3) := by decide +kernel
theorem dX2_shortestRow_76 : decode cX2_shortestRow 76 = .ok (.iconst (-1), 1) := by decide +kernel
theorem dX2_shortestRow_77 : decode cX2_shortestRow 77 = .ok (.ireturn, 1) := by decide +kernel
set_option maxRecDepth 20000 in
theorem ggX2_goOnFrom_X1_lastActToTry : GoodIn wsX2_goOnFrom wsX1_lastActToTry := goodIn_r _ [10, 11, 12, 13, 14, 15, 16, 17] (by decide +kernel) (by decide +kernel)
set_option maxRecDepth 20000 in
theorem gX2_goOnFrom_X1_lastActToTry : GoodIn wsX2_goOnFrom (wsV RX2 53 RX1 yX1_lastActToTry wsX1_lastActToTry) := goodIn_app (goodIn_of _ (by decide +kernel)) ggX2_goOnFrom_X1_lastActToTry
set_option maxRecDepth 20000 in
theorem ggX2_goOnFrom_X1_behind : GoodIn wsX2_goOnFrom wsX1_behind := goodIn_r _ [21, 22, 15, 16, 13, 17, 23, 24, 25, 9, 26, 27, 28, 29, 30, 31, 32, 33, 34, 35, 36, 37, 38, 39, 40, 41, 42, 43, 44, 45, 46, 47, 48, 49, 50, 51, 52, 53, 54, 55, 56, 57, 58, 59, 60, 61, 62, 63, 64, 65, 66, 67, 68, 69, 70, 71, 72, 73, 74, 75, 76, 77, 78, 79, 80, 81, 11, 12, 14, 82, 83, 84, 85, 86, 87, 88, 89, 90, 91, 92, 93, 94, 95, 96, 97, 98, 99, 100, 101, 102, 103, 104, 105, 106, 107, 108, 109, 110, 111, 112, 113, 114, 115, 116, 117, 118, 119, 120, 121, 122, 180, 181, 182, 183, 184, 185, 186] (by decide +kernel) (by decide +kernel)
set_option maxRecDepth 20000 in
theorem gX2_goOnFrom_X1_behind : GoodIn wsX2_goOnFrom (wsV RX2 58 RX1 yX1_behind wsX1_behind) := goodIn_app (goodIn_of _ (by decide +kernel)) ggX2_goOnFrom_X1_behind
set_option maxRecDepth 20000 in
theorem ggX2_goOnFrom_X2_slotFor : GoodIn wsX2_goOnFrom wsX2_slotFor := goodIn_r _ [127, 128, 129, 4, 1, 173, 174, 175, 176, 177, 178, 179] (by decide +kernel) (by decide +kernel)
set_option maxRecDepth 20000 in
theorem gX2_goOnFrom_X2_slotFor : GoodIn wsX2_goOnFrom (wsV RX2 41 RX2 yX2_slotFor wsX2_slotFor) := goodIn_app (goodIn_of _ (by decide +kernel)) ggX2_goOnFrom_X2_slotFor
set_option maxRecDepth 20000 in
theorem ggX2_goOnFrom_X2_keep : GoodIn wsX2_goOnFrom wsX2_keep := goodIn_r _ [133, 134, 1, 135, 4, 173, 174, 175, 176, 177, 178, 179] (by decide +kernel) (by decide +kernel)
set_option maxRecDepth 20000 in
theorem gX2_goOnFrom_X2_keep : GoodIn wsX2_goOnFrom (wsV RX2 45 RX2 yX2_keep wsX2_keep) := goodIn_app (goodIn_of _ (by decide +kernel)) ggX2_goOnFrom_X2_keep
set_option maxRecDepth 20000 in
theorem ggX2_goOnFrom_X0_isBroken : GoodIn wsX2_goOnFrom wsX0_isBroken := goodIn_r _ [139, 140, 16, 13, 17, 141, 142, 138, 143, 144, 145, 146, 147, 148, 149, 150, 151, 152, 153, 154, 155, 156, 70, 71, 157, 158, 159, 160, 161, 162, 163, 164, 165, 166, 167] (by decide +kernel) (by decide +kernel)
set_option maxRecDepth 20000 in
theorem gX2_goOnFrom_X0_isBroken : GoodIn wsX2_goOnFrom (va_wsS RX2 64 yX0_isBroken wsX0_isBroken) := goodIn_app (goodIn_of _ (by decide +kernel)) ggX2_goOnFrom_X0_isBroken
set_option maxRecDepth 20000 in
theorem ggX2_goOnFrom_X2_keepRow : GoodIn wsX2_goOnFrom wsX2_keepRow := goodIn_r _ [171, 134, 135, 172, 5, 173, 174, 175, 176, 177, 178, 179] (by decide +kernel) (by decide +kernel)
set_option maxRecDepth 20000 in
theorem gX2_goOnFrom_X2_keepRow : GoodIn wsX2_goOnFrom (wsV RX2 70 RX2 yX2_keepRow wsX2_keepRow) := goodIn_app (goodIn_of _ (by decide +kernel)) ggX2_goOnFrom_X2_keepRow
theorem dX2_goOnFrom_0 : decode cX2_goOnFrom 0 = .ok (.aload_n 0, 1) := by decide +kernel
theorem dX2_goOnFrom_1 : decode cX2_goOnFrom 1 = .ok (.getfield 9, 3) := by decide +kernel
theorem dX2_goOnFrom_4 : decode cX2_goOnFrom 4 = .ok (.iload_n 1, 1) := by decide +kernel
theorem dX2_goOnFrom_5 : decode cX2_goOnFrom 5 = .ok (.laload, 1) := by decide +kernel
theorem dX2_goOnFrom_6 : decode cX2_goOnFrom 6 = .ok (.lstore_n 3, 1) := by decide +kernel
theorem dX2_goOnFrom_7 : decode cX2_goOnFrom 7 = .ok (.aload_n 0, 1) := by decide +kernel
theorem dX2_goOnFrom_8 : decode cX2_goOnFrom 8 = .ok (.getfield 31, 3) := by decide +kernel
theorem dX2_goOnFrom_11 : decode cX2_goOnFrom 11 = .ok (.lload_n 3, 1) := by decide +kernel
theorem dX2_goOnFrom_12 : decode cX2_goOnFrom 12 = .ok (.invokevirtual 53, 3) := by decide +kernel
theorem dX2_goOnFrom_15 : decode cX2_goOnFrom 15 = .ok (.istore 5, 2) := by decide +kernel
theorem dX2_goOnFrom_17 : decode cX2_goOnFrom 17 = .ok (.iconst 0, 1) := by decide +kernel
theorem dX2_goOnFrom_18 : decode cX2_goOnFrom 18 = .ok (.istore 6, 2) := by decide +kernel
theorem dX2_goOnFrom_20 : decode cX2_goOnFrom 20 = .ok (.iload 6, 2) := by decide +kernel
theorem dX2_goOnFrom_22 : decode cX2_goOnFrom 22 = .ok (.iload 5, 2) := by decide +kernel
theorem dX2_goOnFrom_24 : decode cX2_goOnFrom 24 = .ok (.if_icmp .gt 89, 3) := by decide +kernel
theorem dX2_goOnFrom_27 : decode cX2_goOnFrom 27 = .ok (.aload_n 0, 1) := by decide +kernel
theorem dX2_goOnFrom_28 : decode cX2_goOnFrom 28 = .ok (.getfield 31, 3) := by decide +kernel
theorem dX2_goOnFrom_31 : decode cX2_goOnFrom 31 = .ok (.lload_n 3, 1) := by decide +kernel
theorem dX2_goOnFrom_32 : decode cX2_goOnFrom 32 = .ok (.iload 6, 2) := by decide +kernel
theorem dX2_goOnFrom_34 : decode cX2_goOnFrom 34 = .ok (.invokevirtual 58, 3) := by decide +kernel
theorem dX2_goOnFrom_37 : decode cX2_goOnFrom 37 = .ok (.lstore 7, 2) := by decide +kernel
theorem dX2_goOnFrom_39 : decode cX2_goOnFrom 39 = .ok (.lload 7, 2) := by decide +kernel
theorem dX2_goOnFrom_41 : decode cX2_goOnFrom 41 = .ok (.ldc2_w 62, 3) := by decide +kernel
theorem dX2_goOnFrom_44 : decode cX2_goOnFrom 44 = .ok (.lcmp, 1) := by decide +kernel
theorem dX2_goOnFrom_45 : decode cX2_goOnFrom 45 = .ok (.ifCond .ne 6, 3) := by decide +kernel
theorem dX2_goOnFrom_48 : decode cX2_goOnFrom 48 = .ok (.goto 59, 3) := by decide +kernel
theorem dX2_goOnFrom_51 : decode cX2_goOnFrom 51 = .ok (.aload_n 0, 1) := by decide +kernel
theorem dX2_goOnFrom_52 : decode cX2_goOnFrom 52 = .ok (.lload 7, 2) := by decide +kernel
theorem dX2_goOnFrom_54 : decode cX2_goOnFrom 54 = .ok (.invokevirtual 41, 3) := by decide +kernel
theorem dX2_goOnFrom_57 : decode cX2_goOnFrom 57 = .ok (.istore 9, 2) := by decide +kernel
theorem dX2_goOnFrom_59 : decode cX2_goOnFrom 59 = .ok (.aload_n 0, 1) := by decide +kernel
theorem dX2_goOnFrom_60 : decode cX2_goOnFrom 60 = .ok (.getfield 18, 3) := by decide +kernel
theorem dX2_goOnFrom_63 : decode cX2_goOnFrom 63 = .ok (.iload 9, 2) := by decide +kernel
theorem dX2_goOnFrom_65 : decode cX2_goOnFrom 65 = .ok (.iaload, 1) := by decide +kernel
theorem dX2_goOnFrom_66 : decode cX2_goOnFrom 66 = .ok (.ifCond .eq 6, 3) := by decide +kernel
theorem dX2_goOnFrom_69 : decode cX2_goOnFrom 69 = .ok (.goto 38, 3) := by decide +kernel
theorem dX2_goOnFrom_72 : decode cX2_goOnFrom 72 = .ok (.aload_n 0, 1) := by decide +kernel
theorem dX2_goOnFrom_73 : decode cX2_goOnFrom 73 = .ok (.lload 7, 2) := by decide +kernel
theorem dX2_goOnFrom_75 : decode cX2_goOnFrom 75 = .ok (.iload 9, 2) := by decide +kernel
theorem dX2_goOnFrom_77 : decode cX2_goOnFrom 77 = .ok (.iload_n 1, 1) := by decide +kernel
theorem dX2_goOnFrom_78 : decode cX2_goOnFrom 78 = .ok (.iload 6, 2) := by decide +kernel
theorem dX2_goOnFrom_80 : decode cX2_goOnFrom 80 = .ok (.invokevirtual 45, 3) := by decide +kernel
theorem dX2_goOnFrom_83 : decode cX2_goOnFrom 83 = .ok (.ifCond .ne 6, 3) := by decide +kernel
theorem dX2_goOnFrom_86 : decode cX2_goOnFrom 86 = .ok (.bipush (-2), 2) := by decide +kernel
theorem dX2_goOnFrom_88 : decode cX2_goOnFrom 88 = .ok (.ireturn, 1) := by decide +kernel
theorem dX2_goOnFrom_89 : decode cX2_goOnFrom 89 = .ok (.lload 7, 2) := by decide +kernel
theorem dX2_goOnFrom_91 : decode cX2_goOnFrom 91 = .ok (.iload_n 2, 1) := by decide +kernel
theorem dX2_goOnFrom_92 : decode cX2_goOnFrom 92 = .ok (.invokestatic 64, 3) := by decide +kernel
theorem dX2_goOnFrom_95 : decode cX2_goOnFrom 95 = .ok (.ifCond .eq 12, 3) := by decide +kernel
theorem dX2_goOnFrom_98 : decode cX2_goOnFrom 98 = .ok (.aload_n 0, 1) := by decide +kernel
theorem dX2_goOnFrom_99 : decode cX2_goOnFrom 99 = .ok (.invokevirtual 70, 3) := by decide +kernel
theorem dX2_goOnFrom_102 : decode cX2_goOnFrom 102 = .ok (.aload_n 0, 1) := by decide +kernel
theorem dX2_goOnFrom_103 : decode cX2_goOnFrom 103 = .ok (.getfield 28, 3) := by decide +kernel
theorem dX2_goOnFrom_106 : decode cX2_goOnFrom 106 = .ok (.ireturn, 1) := by decide +kernel
theorem dX2_goOnFrom_107 : decode cX2_goOnFrom 107 = .ok (.iinc 6 1, 3) := by decide +kernel
theorem dX2_goOnFrom_110 : decode cX2_goOnFrom 110 = .ok (.goto (-90), 3) := by decide +kernel
theorem dX2_goOnFrom_113 : decode cX2_goOnFrom 113 = .ok (.bipush (-3), 2) := by decide +kernel
theorem dX2_goOnFrom_115 : decode cX2_goOnFrom 115 = .ok (.ireturn, 1) := by decide +kernel
theorem dX2_keep_0 : decode cX2_keep 0 = .ok (.aload_n 0, 1) := by decide +kernel
theorem dX2_keep_1 : decode cX2_keep 1 = .ok (.getfield 21, 3) := by decide +kernel
theorem dX2_keep_4 : decode cX2_keep 4 = .ok (.sipush 20000, 3) := by decide +kernel
theorem dX2_keep_7 : decode cX2_keep 7 = .ok (.if_icmp .lt 5, 3) := by decide +kernel
theorem dX2_keep_10 : decode cX2_keep 10 = .ok (.iconst 0, 1) := by decide +kernel
theorem dX2_keep_11 : decode cX2_keep 11 = .ok (.ireturn, 1) := by decide +kernel
theorem dX2_keep_12 : decode cX2_keep 12 = .ok (.aload_n 0, 1) := by decide +kernel
theorem dX2_keep_13 : decode cX2_keep 13 = .ok (.getfield 9, 3) := by decide +kernel
theorem dX2_keep_16 : decode cX2_keep 16 = .ok (.aload_n 0, 1) := by decide +kernel
theorem dX2_keep_17 : decode cX2_keep 17 = .ok (.getfield 21, 3) := by decide +kernel
theorem dX2_keep_20 : decode cX2_keep 20 = .ok (.lload_n 1, 1) := by decide +kernel
theorem dX2_keep_21 : decode cX2_keep 21 = .ok (.lastore, 1) := by decide +kernel
theorem dX2_keep_22 : decode cX2_keep 22 = .ok (.aload_n 0, 1) := by decide +kernel
theorem dX2_keep_23 : decode cX2_keep 23 = .ok (.getfield 13, 3) := by decide +kernel
theorem dX2_keep_26 : decode cX2_keep 26 = .ok (.aload_n 0, 1) := by decide +kernel
theorem dX2_keep_27 : decode cX2_keep 27 = .ok (.getfield 21, 3) := by decide +kernel
theorem dX2_keep_30 : decode cX2_keep 30 = .ok (.iload 4, 2) := by decide +kernel
theorem dX2_keep_32 : decode cX2_keep 32 = .ok (.bipush 64, 2) := by decide +kernel
theorem dX2_keep_34 : decode cX2_keep 34 = .ok (.imul, 1) := by decide +kernel
theorem dX2_keep_35 : decode cX2_keep 35 = .ok (.iload 5, 2) := by decide +kernel
theorem dX2_keep_37 : decode cX2_keep 37 = .ok (.iadd, 1) := by decide +kernel
theorem dX2_keep_38 : decode cX2_keep 38 = .ok (.iastore, 1) := by decide +kernel
theorem dX2_keep_39 : decode cX2_keep 39 = .ok (.aload_n 0, 1) := by decide +kernel
theorem dX2_keep_40 : decode cX2_keep 40 = .ok (.dup, 1) := by decide +kernel
theorem dX2_keep_41 : decode cX2_keep 41 = .ok (.getfield 21, 3) := by decide +kernel
theorem dX2_keep_44 : decode cX2_keep 44 = .ok (.iconst 1, 1) := by decide +kernel
theorem dX2_keep_45 : decode cX2_keep 45 = .ok (.iadd, 1) := by decide +kernel
theorem dX2_keep_46 : decode cX2_keep 46 = .ok (.putfield 21, 3) := by decide +kernel
theorem dX2_keep_49 : decode cX2_keep 49 = .ok (.aload_n 0, 1) := by decide +kernel
theorem dX2_keep_50 : decode cX2_keep 50 = .ok (.getfield 18, 3) := by decide +kernel
theorem dX2_keep_53 : decode cX2_keep 53 = .ok (.iload_n 3, 1) := by decide +kernel
theorem dX2_keep_54 : decode cX2_keep 54 = .ok (.aload_n 0, 1) := by decide +kernel
theorem dX2_keep_55 : decode cX2_keep 55 = .ok (.getfield 21, 3) := by decide +kernel
theorem dX2_keep_58 : decode cX2_keep 58 = .ok (.iastore, 1) := by decide +kernel
theorem dX2_keep_59 : decode cX2_keep 59 = .ok (.iconst 1, 1) := by decide +kernel
theorem dX2_keep_60 : decode cX2_keep 60 = .ok (.ireturn, 1) := by decide +kernel
theorem dX2_slotFor_0 : decode cX2_slotFor 0 = .ok (.lload_n 1, 1) := by decide +kernel
theorem dX2_slotFor_1 : decode cX2_slotFor 1 = .ok (.ldc2_w 73, 3) := by decide +kernel
theorem dX2_slotFor_4 : decode cX2_slotFor 4 = .ok (.lmul, 1) := by decide +kernel
theorem dX2_slotFor_5 : decode cX2_slotFor 5 = .ok (.bipush 49, 2) := by decide +kernel
theorem dX2_slotFor_7 : decode cX2_slotFor 7 = .ok (.lushr, 1) := by decide +kernel
theorem dX2_slotFor_8 : decode cX2_slotFor 8 = .ok (.l2i, 1) := by decide +kernel
theorem dX2_slotFor_9 : decode cX2_slotFor 9 = .ok (.istore_n 3, 1) := by decide +kernel
theorem dX2_slotFor_10 : decode cX2_slotFor 10 = .ok (.iconst 0, 1) := by decide +kernel
theorem dX2_slotFor_11 : decode cX2_slotFor 11 = .ok (.istore 4, 2) := by decide +kernel
theorem dX2_slotFor_13 : decode cX2_slotFor 13 = .ok (.iload 4, 2) := by decide +kernel
theorem dX2_slotFor_15 : decode cX2_slotFor 15 = .ok (.ldc 17, 2) := by decide +kernel
theorem dX2_slotFor_17 : decode cX2_slotFor 17 = .ok (.if_icmp .ge 46, 3) := by decide +kernel
theorem dX2_slotFor_20 : decode cX2_slotFor 20 = .ok (.aload_n 0, 1) := by decide +kernel
theorem dX2_slotFor_21 : decode cX2_slotFor 21 = .ok (.getfield 18, 3) := by decide +kernel
theorem dX2_slotFor_24 : decode cX2_slotFor 24 = .ok (.iload_n 3, 1) := by decide +kernel
theorem dX2_slotFor_25 : decode cX2_slotFor 25 = .ok (.iaload, 1) := by decide +kernel
theorem dX2_slotFor_26 : decode cX2_slotFor 26 = .ok (.istore 5, 2) := by decide +kernel
theorem dX2_slotFor_28 : decode cX2_slotFor 28 = .ok (.iload 5, 2) := by decide +kernel
theorem dX2_slotFor_30 : decode cX2_slotFor 30 = .ok (.ifCond .eq 17, 3) := by decide +kernel
theorem dX2_slotFor_33 : decode cX2_slotFor 33 = .ok (.aload_n 0, 1) := by decide +kernel
theorem dX2_slotFor_34 : decode cX2_slotFor 34 = .ok (.getfield 9, 3) := by decide +kernel
theorem dX2_slotFor_37 : decode cX2_slotFor 37 = .ok (.iload 5, 2) := by decide +kernel
theorem dX2_slotFor_39 : decode cX2_slotFor 39 = .ok (.iconst 1, 1) := by decide +kernel
theorem dX2_slotFor_40 : decode cX2_slotFor 40 = .ok (.isub, 1) := by decide +kernel
theorem dX2_slotFor_41 : decode cX2_slotFor 41 = .ok (.laload, 1) := by decide +kernel
theorem dX2_slotFor_42 : decode cX2_slotFor 42 = .ok (.lload_n 1, 1) := by decide +kernel
theorem dX2_slotFor_43 : decode cX2_slotFor 43 = .ok (.lcmp, 1) := by decide +kernel
theorem dX2_slotFor_44 : decode cX2_slotFor 44 = .ok (.ifCond .ne 5, 3) := by decide +kernel
theorem dX2_slotFor_47 : decode cX2_slotFor 47 = .ok (.iload_n 3, 1) := by decide +kernel
theorem dX2_slotFor_48 : decode cX2_slotFor 48 = .ok (.ireturn, 1) := by decide +kernel
theorem dX2_slotFor_49 : decode cX2_slotFor 49 = .ok (.iload_n 3, 1) := by decide +kernel
theorem dX2_slotFor_50 : decode cX2_slotFor 50 = .ok (.iconst 1, 1) := by decide +kernel
theorem dX2_slotFor_51 : decode cX2_slotFor 51 = .ok (.iadd, 1) := by decide +kernel
theorem dX2_slotFor_52 : decode cX2_slotFor 52 = .ok (.sipush 32767, 3) := by decide +kernel
theorem dX2_slotFor_55 : decode cX2_slotFor 55 = .ok (.iand, 1) := by decide +kernel
theorem dX2_slotFor_56 : decode cX2_slotFor 56 = .ok (.istore_n 3, 1) := by decide +kernel
theorem dX2_slotFor_57 : decode cX2_slotFor 57 = .ok (.iinc 4 1, 3) := by decide +kernel
theorem dX2_slotFor_60 : decode cX2_slotFor 60 = .ok (.goto (-47), 3) := by decide +kernel
theorem dX2_slotFor_63 : decode cX2_slotFor 63 = .ok (.iload_n 3, 1) := by decide +kernel
theorem dX2_slotFor_64 : decode cX2_slotFor 64 = .ok (.ireturn, 1) := by decide +kernel
theorem dX2_keepRow_0 : decode cX2_keepRow 0 = .ok (.iconst 0, 1) := by decide +kernel
theorem dX2_keepRow_1 : decode cX2_keepRow 1 = .ok (.istore_n 1, 1) := by decide +kernel
theorem dX2_keepRow_2 : decode cX2_keepRow 2 = .ok (.aload_n 0, 1) := by decide +kernel
theorem dX2_keepRow_3 : decode cX2_keepRow 3 = .ok (.getfield 21, 3) := by decide +kernel
theorem dX2_keepRow_6 : decode cX2_keepRow 6 = .ok (.iconst 1, 1) := by decide +kernel
theorem dX2_keepRow_7 : decode cX2_keepRow 7 = .ok (.isub, 1) := by decide +kernel
theorem dX2_keepRow_8 : decode cX2_keepRow 8 = .ok (.istore_n 2, 1) := by decide +kernel
theorem dX2_keepRow_9 : decode cX2_keepRow 9 = .ok (.iload_n 2, 1) := by decide +kernel
theorem dX2_keepRow_10 : decode cX2_keepRow 10 = .ok (.ifCond .le 25, 3) := by decide +kernel
theorem dX2_keepRow_13 : decode cX2_keepRow 13 = .ok (.iload_n 1, 1) := by decide +kernel
theorem dX2_keepRow_14 : decode cX2_keepRow 14 = .ok (.bipush 40, 2) := by decide +kernel
theorem dX2_keepRow_16 : decode cX2_keepRow 16 = .ok (.if_icmp .ge 19, 3) := by decide +kernel
theorem dX2_keepRow_19 : decode cX2_keepRow 19 = .ok (.iinc 1 1, 3) := by decide +kernel
theorem dX2_keepRow_22 : decode cX2_keepRow 22 = .ok (.aload_n 0, 1) := by decide +kernel
theorem dX2_keepRow_23 : decode cX2_keepRow 23 = .ok (.getfield 13, 3) := by decide +kernel
theorem dX2_keepRow_26 : decode cX2_keepRow 26 = .ok (.iload_n 2, 1) := by decide +kernel
theorem dX2_keepRow_27 : decode cX2_keepRow 27 = .ok (.iaload, 1) := by decide +kernel
theorem dX2_keepRow_28 : decode cX2_keepRow 28 = .ok (.bipush 64, 2) := by decide +kernel
theorem dX2_keepRow_30 : decode cX2_keepRow 30 = .ok (.idiv, 1) := by decide +kernel
theorem dX2_keepRow_31 : decode cX2_keepRow 31 = .ok (.istore_n 2, 1) := by decide +kernel
theorem dX2_keepRow_32 : decode cX2_keepRow 32 = .ok (.goto (-23), 3) := by decide +kernel
theorem dX2_keepRow_35 : decode cX2_keepRow 35 = .ok (.aload_n 0, 1) := by decide +kernel
theorem dX2_keepRow_36 : decode cX2_keepRow 36 = .ok (.getfield 21, 3) := by decide +kernel
theorem dX2_keepRow_39 : decode cX2_keepRow 39 = .ok (.iconst 1, 1) := by decide +kernel
theorem dX2_keepRow_40 : decode cX2_keepRow 40 = .ok (.isub, 1) := by decide +kernel
theorem dX2_keepRow_41 : decode cX2_keepRow 41 = .ok (.istore_n 2, 1) := by decide +kernel
theorem dX2_keepRow_42 : decode cX2_keepRow 42 = .ok (.iload_n 1, 1) := by decide +kernel
theorem dX2_keepRow_43 : decode cX2_keepRow 43 = .ok (.iconst 1, 1) := by decide +kernel
theorem dX2_keepRow_44 : decode cX2_keepRow 44 = .ok (.isub, 1) := by decide +kernel
theorem dX2_keepRow_45 : decode cX2_keepRow 45 = .ok (.istore_n 3, 1) := by decide +kernel
theorem dX2_keepRow_46 : decode cX2_keepRow 46 = .ok (.iload_n 3, 1) := by decide +kernel
theorem dX2_keepRow_47 : decode cX2_keepRow 47 = .ok (.ifCond .lt 34, 3) := by decide +kernel
theorem dX2_keepRow_50 : decode cX2_keepRow 50 = .ok (.aload_n 0, 1) := by decide +kernel
theorem dX2_keepRow_51 : decode cX2_keepRow 51 = .ok (.getfield 25, 3) := by decide +kernel
theorem dX2_keepRow_54 : decode cX2_keepRow 54 = .ok (.iload_n 3, 1) := by decide +kernel
theorem dX2_keepRow_55 : decode cX2_keepRow 55 = .ok (.aload_n 0, 1) := by decide +kernel
theorem dX2_keepRow_56 : decode cX2_keepRow 56 = .ok (.getfield 13, 3) := by decide +kernel
theorem dX2_keepRow_59 : decode cX2_keepRow 59 = .ok (.iload_n 2, 1) := by decide +kernel
theorem dX2_keepRow_60 : decode cX2_keepRow 60 = .ok (.iaload, 1) := by decide +kernel
theorem dX2_keepRow_61 : decode cX2_keepRow 61 = .ok (.bipush 64, 2) := by decide +kernel
theorem dX2_keepRow_63 : decode cX2_keepRow 63 = .ok (.irem, 1) := by decide +kernel
theorem dX2_keepRow_64 : decode cX2_keepRow 64 = .ok (.iastore, 1) := by decide +kernel
theorem dX2_keepRow_65 : decode cX2_keepRow 65 = .ok (.aload_n 0, 1) := by decide +kernel
theorem dX2_keepRow_66 : decode cX2_keepRow 66 = .ok (.getfield 13, 3) := by decide +kernel
theorem dX2_keepRow_69 : decode cX2_keepRow 69 = .ok (.iload_n 2, 1) := by decide +kernel
theorem dX2_keepRow_70 : decode cX2_keepRow 70 = .ok (.iaload, 1) := by decide +kernel
theorem dX2_keepRow_71 : decode cX2_keepRow 71 = .ok (.bipush 64, 2) := by decide +kernel
theorem dX2_keepRow_73 : decode cX2_keepRow 73 = .ok (.idiv, 1) := by decide +kernel
theorem dX2_keepRow_74 : decode cX2_keepRow 74 = .ok (.istore_n 2, 1) := by decide +kernel
theorem dX2_keepRow_75 : decode cX2_keepRow 75 = .ok (.iinc 3 (-1), 3) := by decide +kernel
theorem dX2_keepRow_78 : decode cX2_keepRow 78 = .ok (.goto (-32), 3) := by decide +kernel
theorem dX2_keepRow_81 : decode cX2_keepRow 81 = .ok (.aload_n 0, 1) := by decide +kernel
theorem dX2_keepRow_82 : decode cX2_keepRow 82 = .ok (.iload_n 1, 1) := by decide +kernel
theorem dX2_keepRow_83 : decode cX2_keepRow 83 = .ok (.putfield 28, 3) := by decide +kernel
theorem dX2_keepRow_86 : decode cX2_keepRow 86 = .ok (.return_, 1) := by decide +kernel
theorem dX3_init_0 : decode cX3_init 0 = .ok (.aload_n 0, 1) := by decide +kernel
theorem dX3_init_1 : decode cX3_init 1 = .ok (.invokespecial 1, 3) := by decide +kernel
theorem dX3_init_4 : decode cX3_init 4 = .ok (.aload_n 0, 1) := by decide +kernel
theorem dX3_init_5 : decode cX3_init 5 = .ok (.iconst 1, 1) := by decide +kernel
theorem dX3_init_6 : decode cX3_init 6 = .ok (.putfield 7, 3) := by decide +kernel
theorem dX3_init_9 : decode cX3_init 9 = .ok (.aload_n 0, 1) := by decide +kernel
theorem dX3_init_10 : decode cX3_init 10 = .ok (.iconst 1, 1) := by decide +kernel
theorem dX3_init_11 : decode cX3_init 11 = .ok (.putfield 13, 3) := by decide +kernel
theorem dX3_init_14 : decode cX3_init 14 = .ok (.aload_n 0, 1) := by decide +kernel
theorem dX3_init_15 : decode cX3_init 15 = .ok (.iconst 1, 1) := by decide +kernel
theorem dX3_init_16 : decode cX3_init 16 = .ok (.putfield 16, 3) := by decide +kernel
theorem dX3_init_19 : decode cX3_init 19 = .ok (.aload_n 0, 1) := by decide +kernel
theorem dX3_init_20 : decode cX3_init 20 = .ok (.iconst 0, 1) := by decide +kernel
theorem dX3_init_21 : decode cX3_init 21 = .ok (.putfield 19, 3) := by decide +kernel
theorem dX3_init_24 : decode cX3_init 24 = .ok (.aload_n 0, 1) := by decide +kernel
theorem dX3_init_25 : decode cX3_init 25 = .ok (.iconst 0, 1) := by decide +kernel
theorem dX3_init_26 : decode cX3_init 26 = .ok (.putfield 22, 3) := by decide +kernel
theorem dX3_init_29 : decode cX3_init 29 = .ok (.aload_n 0, 1) := by decide +kernel
theorem dX3_init_30 : decode cX3_init 30 = .ok (.lconst 0, 1) := by decide +kernel
theorem dX3_init_31 : decode cX3_init 31 = .ok (.putfield 25, 3) := by decide +kernel
theorem dX3_init_34 : decode cX3_init 34 = .ok (.return_, 1) := by decide +kernel
theorem dX3_resize_0 : decode cX3_resize 0 = .ok (.aload_n 0, 1) := by decide +kernel
theorem dX3_resize_1 : decode cX3_resize 1 = .ok (.iload_n 1, 1) := by decide +kernel
theorem dX3_resize_2 : decode cX3_resize 2 = .ok (.putfield 7, 3) := by decide +kernel
theorem dX3_resize_5 : decode cX3_resize 5 = .ok (.aload_n 0, 1) := by decide +kernel
theorem dX3_resize_6 : decode cX3_resize 6 = .ok (.iload_n 2, 1) := by decide +kernel
theorem dX3_resize_7 : decode cX3_resize 7 = .ok (.putfield 13, 3) := by decide +kernel
theorem dX3_resize_10 : decode cX3_resize 10 = .ok (.aload_n 0, 1) := by decide +kernel
theorem dX3_resize_11 : decode cX3_resize 11 = .ok (.iload_n 3, 1) := by decide +kernel
theorem dX3_resize_12 : decode cX3_resize 12 = .ok (.putfield 16, 3) := by decide +kernel
theorem dX3_resize_15 : decode cX3_resize 15 = .ok (.aload_n 0, 1) := by decide +kernel
theorem dX3_resize_16 : decode cX3_resize 16 = .ok (.lconst 0, 1) := by decide +kernel
theorem dX3_resize_17 : decode cX3_resize 17 = .ok (.putfield 25, 3) := by decide +kernel
theorem dX3_resize_20 : decode cX3_resize 20 = .ok (.return_, 1) := by decide +kernel
set_option maxRecDepth 20000 in
theorem ggX3_firstState_X4_withActsLeft : GoodIn wsX3_firstState wsX4_withActsLeft := goodIn_r _ [6, 7] (by decide +kernel) (by decide +kernel)
set_option maxRecDepth 20000 in
theorem gX3_firstState_X4_withActsLeft : GoodIn wsX3_firstState (va_wsS RX3 29 yX4_withActsLeft wsX4_withActsLeft) := goodIn_app (goodIn_of _ (by decide +kernel)) ggX3_firstState_X4_withActsLeft
theorem dX3_firstState_0 : decode cX3_firstState 0 = .ok (.aload_n 0, 1) := by decide +kernel
theorem dX3_firstState_1 : decode cX3_firstState 1 = .ok (.getfield 25, 3) := by decide +kernel
theorem dX3_firstState_4 : decode cX3_firstState 4 = .ok (.aload_n 0, 1) := by decide +kernel
theorem dX3_firstState_5 : decode cX3_firstState 5 = .ok (.getfield 22, 3) := by decide +kernel
theorem dX3_firstState_8 : decode cX3_firstState 8 = .ok (.invokestatic 29, 3) := by decide +kernel
theorem dX3_firstState_11 : decode cX3_firstState 11 = .ok (.lreturn, 1) := by decide +kernel
theorem dX3_hasBarrier_0 : decode cX3_hasBarrier 0 = .ok (.aload_n 0, 1) := by decide +kernel
theorem dX3_hasBarrier_1 : decode cX3_hasBarrier 1 = .ok (.getfield 19, 3) := by decide +kernel
theorem dX3_hasBarrier_4 : decode cX3_hasBarrier 4 = .ok (.iload_n 1, 1) := by decide +kernel
theorem dX3_hasBarrier_5 : decode cX3_hasBarrier 5 = .ok (.iand, 1) := by decide +kernel
theorem dX3_hasBarrier_6 : decode cX3_hasBarrier 6 = .ok (.ifCond .eq 7, 3) := by decide +kernel
theorem dX3_hasBarrier_9 : decode cX3_hasBarrier 9 = .ok (.iconst 1, 1) := by decide +kernel
theorem dX3_hasBarrier_10 : decode cX3_hasBarrier 10 = .ok (.goto 4, 3) := by decide +kernel
theorem dX3_hasBarrier_13 : decode cX3_hasBarrier 13 = .ok (.iconst 0, 1) := by decide +kernel
theorem dX3_hasBarrier_14 : decode cX3_hasBarrier 14 = .ok (.ireturn, 1) := by decide +kernel
set_option maxRecDepth 20000 in
theorem ggX4_inField_X4_fieldPlace : GoodIn wsX4_inField wsX4_fieldPlace := goodIn_r _ [4] (by decide +kernel) (by decide +kernel)
set_option maxRecDepth 20000 in
theorem gX4_inField_X4_fieldPlace : GoodIn wsX4_inField (va_wsS RX4 9 yX4_fieldPlace wsX4_fieldPlace) := goodIn_app (goodIn_of _ (by decide +kernel)) ggX4_inField_X4_fieldPlace
theorem dX4_inField_0 : decode cX4_inField 0 = .ok (.lload_n 0, 1) := by decide +kernel
theorem dX4_inField_1 : decode cX4_inField 1 = .ok (.iload_n 2, 1) := by decide +kernel
theorem dX4_inField_2 : decode cX4_inField 2 = .ok (.iload_n 3, 1) := by decide +kernel
theorem dX4_inField_3 : decode cX4_inField 3 = .ok (.invokestatic 9, 3) := by decide +kernel
theorem dX4_inField_6 : decode cX4_inField 6 = .ok (.lushr, 1) := by decide +kernel
theorem dX4_inField_7 : decode cX4_inField 7 = .ok (.l2i, 1) := by decide +kernel
theorem dX4_inField_8 : decode cX4_inField 8 = .ok (.bipush 7, 2) := by decide +kernel
theorem dX4_inField_10 : decode cX4_inField 10 = .ok (.iand, 1) := by decide +kernel
theorem dX4_inField_11 : decode cX4_inField 11 = .ok (.iconst 1, 1) := by decide +kernel
theorem dX4_inField_12 : decode cX4_inField 12 = .ok (.isub, 1) := by decide +kernel
theorem dX4_inField_13 : decode cX4_inField 13 = .ok (.ireturn, 1) := by decide +kernel
set_option maxRecDepth 20000 in
theorem ggX4_withField_X4_fieldPlace : GoodIn wsX4_withField wsX4_fieldPlace := goodIn_r _ [6] (by decide +kernel) (by decide +kernel)
set_option maxRecDepth 20000 in
theorem gX4_withField_X4_fieldPlace : GoodIn wsX4_withField (va_wsS RX4 9 yX4_fieldPlace wsX4_fieldPlace) := goodIn_app (goodIn_of _ (by decide +kernel)) ggX4_withField_X4_fieldPlace
theorem dX4_withField_0 : decode cX4_withField 0 = .ok (.iload_n 2, 1) := by decide +kernel
theorem dX4_withField_1 : decode cX4_withField 1 = .ok (.iload_n 3, 1) := by decide +kernel
theorem dX4_withField_2 : decode cX4_withField 2 = .ok (.invokestatic 9, 3) := by decide +kernel
theorem dX4_withField_5 : decode cX4_withField 5 = .ok (.istore 5, 2) := by decide +kernel
theorem dX4_withField_7 : decode cX4_withField 7 = .ok (.lload_n 0, 1) := by decide +kernel
theorem dX4_withField_8 : decode cX4_withField 8 = .ok (.ldc2_w 15, 3) := by decide +kernel
theorem dX4_withField_11 : decode cX4_withField 11 = .ok (.iload 5, 2) := by decide +kernel
theorem dX4_withField_13 : decode cX4_withField 13 = .ok (.lshl, 1) := by decide +kernel
theorem dX4_withField_14 : decode cX4_withField 14 = .ok (.ldc2_w 17, 3) := by decide +kernel
theorem dX4_withField_17 : decode cX4_withField 17 = .ok (.lxor, 1) := by decide +kernel
theorem dX4_withField_18 : decode cX4_withField 18 = .ok (.land, 1) := by decide +kernel
theorem dX4_withField_19 : decode cX4_withField 19 = .ok (.iload 4, 2) := by decide +kernel
theorem dX4_withField_21 : decode cX4_withField 21 = .ok (.i2l, 1) := by decide +kernel
theorem dX4_withField_22 : decode cX4_withField 22 = .ok (.lconst 1, 1) := by decide +kernel
theorem dX4_withField_23 : decode cX4_withField 23 = .ok (.ladd, 1) := by decide +kernel
theorem dX4_withField_24 : decode cX4_withField 24 = .ok (.iload 5, 2) := by decide +kernel
theorem dX4_withField_26 : decode cX4_withField 26 = .ok (.lshl, 1) := by decide +kernel
theorem dX4_withField_27 : decode cX4_withField 27 = .ok (.lor, 1) := by decide +kernel
theorem dX4_withField_28 : decode cX4_withField 28 = .ok (.lreturn, 1) := by decide +kernel
theorem dX4_fieldPlace_0 : decode cX4_fieldPlace 0 = .ok (.bipush 6, 2) := by decide +kernel
theorem dX4_fieldPlace_2 : decode cX4_fieldPlace 2 = .ok (.iload_n 0, 1) := by decide +kernel
theorem dX4_fieldPlace_3 : decode cX4_fieldPlace 3 = .ok (.imul, 1) := by decide +kernel
theorem dX4_fieldPlace_4 : decode cX4_fieldPlace 4 = .ok (.iconst 3, 1) := by decide +kernel
theorem dX4_fieldPlace_5 : decode cX4_fieldPlace 5 = .ok (.iload_n 1, 1) := by decide +kernel
theorem dX4_fieldPlace_6 : decode cX4_fieldPlace 6 = .ok (.imul, 1) := by decide +kernel
theorem dX4_fieldPlace_7 : decode cX4_fieldPlace 7 = .ok (.iadd, 1) := by decide +kernel
theorem dX4_fieldPlace_8 : decode cX4_fieldPlace 8 = .ok (.ireturn, 1) := by decide +kernel
set_option maxRecDepth 20000 in
theorem ggX4_inRoot_X4_rootPlace : GoodIn wsX4_inRoot wsX4_rootPlace := goodIn_r _ [4] (by decide +kernel) (by decide +kernel)
set_option maxRecDepth 20000 in
theorem gX4_inRoot_X4_rootPlace : GoodIn wsX4_inRoot (va_wsS RX4 19 yX4_rootPlace wsX4_rootPlace) := goodIn_app (goodIn_of _ (by decide +kernel)) ggX4_inRoot_X4_rootPlace
theorem dX4_inRoot_0 : decode cX4_inRoot 0 = .ok (.lload_n 0, 1) := by decide +kernel
theorem dX4_inRoot_1 : decode cX4_inRoot 1 = .ok (.iload_n 2, 1) := by decide +kernel
theorem dX4_inRoot_2 : decode cX4_inRoot 2 = .ok (.invokestatic 19, 3) := by decide +kernel
theorem dX4_inRoot_5 : decode cX4_inRoot 5 = .ok (.lushr, 1) := by decide +kernel
theorem dX4_inRoot_6 : decode cX4_inRoot 6 = .ok (.l2i, 1) := by decide +kernel
theorem dX4_inRoot_7 : decode cX4_inRoot 7 = .ok (.bipush 7, 2) := by decide +kernel
theorem dX4_inRoot_9 : decode cX4_inRoot 9 = .ok (.iand, 1) := by decide +kernel
theorem dX4_inRoot_10 : decode cX4_inRoot 10 = .ok (.iconst 1, 1) := by decide +kernel
theorem dX4_inRoot_11 : decode cX4_inRoot 11 = .ok (.isub, 1) := by decide +kernel
theorem dX4_inRoot_12 : decode cX4_inRoot 12 = .ok (.ireturn, 1) := by decide +kernel
set_option maxRecDepth 20000 in
theorem ggX4_withRoot_X4_rootPlace : GoodIn wsX4_withRoot wsX4_rootPlace := goodIn_r _ [6] (by decide +kernel) (by decide +kernel)
set_option maxRecDepth 20000 in
theorem gX4_withRoot_X4_rootPlace : GoodIn wsX4_withRoot (va_wsS RX4 19 yX4_rootPlace wsX4_rootPlace) := goodIn_app (goodIn_of _ (by decide +kernel)) ggX4_withRoot_X4_rootPlace
theorem dX4_withRoot_0 : decode cX4_withRoot 0 = .ok (.iload_n 2, 1) := by decide +kernel
theorem dX4_withRoot_1 : decode cX4_withRoot 1 = .ok (.invokestatic 19, 3) := by decide +kernel
theorem dX4_withRoot_4 : decode cX4_withRoot 4 = .ok (.istore 4, 2) := by decide +kernel
theorem dX4_withRoot_6 : decode cX4_withRoot 6 = .ok (.lload_n 0, 1) := by decide +kernel
theorem dX4_withRoot_7 : decode cX4_withRoot 7 = .ok (.ldc2_w 15, 3) := by decide +kernel
theorem dX4_withRoot_10 : decode cX4_withRoot 10 = .ok (.iload 4, 2) := by decide +kernel
theorem dX4_withRoot_12 : decode cX4_withRoot 12 = .ok (.lshl, 1) := by decide +kernel
theorem dX4_withRoot_13 : decode cX4_withRoot 13 = .ok (.ldc2_w 17, 3) := by decide +kernel
theorem dX4_withRoot_16 : decode cX4_withRoot 16 = .ok (.lxor, 1) := by decide +kernel
theorem dX4_withRoot_17 : decode cX4_withRoot 17 = .ok (.land, 1) := by decide +kernel
theorem dX4_withRoot_18 : decode cX4_withRoot 18 = .ok (.iload_n 3, 1) := by decide +kernel
theorem dX4_withRoot_19 : decode cX4_withRoot 19 = .ok (.i2l, 1) := by decide +kernel
theorem dX4_withRoot_20 : decode cX4_withRoot 20 = .ok (.lconst 1, 1) := by decide +kernel
theorem dX4_withRoot_21 : decode cX4_withRoot 21 = .ok (.ladd, 1) := by decide +kernel
theorem dX4_withRoot_22 : decode cX4_withRoot 22 = .ok (.iload 4, 2) := by decide +kernel
theorem dX4_withRoot_24 : decode cX4_withRoot 24 = .ok (.lshl, 1) := by decide +kernel
theorem dX4_withRoot_25 : decode cX4_withRoot 25 = .ok (.lor, 1) := by decide +kernel
theorem dX4_withRoot_26 : decode cX4_withRoot 26 = .ok (.lreturn, 1) := by decide +kernel
theorem dX4_rootPlace_0 : decode cX4_rootPlace 0 = .ok (.bipush 24, 2) := by decide +kernel
theorem dX4_rootPlace_2 : decode cX4_rootPlace 2 = .ok (.iconst 3, 1) := by decide +kernel
theorem dX4_rootPlace_3 : decode cX4_rootPlace 3 = .ok (.iload_n 0, 1) := by decide +kernel
theorem dX4_rootPlace_4 : decode cX4_rootPlace 4 = .ok (.imul, 1) := by decide +kernel
theorem dX4_rootPlace_5 : decode cX4_rootPlace 5 = .ok (.iadd, 1) := by decide +kernel
theorem dX4_rootPlace_6 : decode cX4_rootPlace 6 = .ok (.ireturn, 1) := by decide +kernel
theorem dX4_setInRoots_0 : decode cX4_setInRoots 0 = .ok (.iconst 0, 1) := by decide +kernel
theorem dX4_setInRoots_1 : decode cX4_setInRoots 1 = .ok (.istore_n 2, 1) := by decide +kernel
theorem dX4_setInRoots_2 : decode cX4_setInRoots 2 = .ok (.iconst 0, 1) := by decide +kernel
theorem dX4_setInRoots_3 : decode cX4_setInRoots 3 = .ok (.istore_n 3, 1) := by decide +kernel
theorem dX4_setInRoots_4 : decode cX4_setInRoots 4 = .ok (.iload_n 3, 1) := by decide +kernel
theorem dX4_setInRoots_5 : decode cX4_setInRoots 5 = .ok (.iconst 3, 1) := by decide +kernel
theorem dX4_setInRoots_6 : decode cX4_setInRoots 6 = .ok (.if_icmp .ge 26, 3) := by decide +kernel
theorem dX4_setInRoots_9 : decode cX4_setInRoots 9 = .ok (.iload_n 2, 1) := by decide +kernel
theorem dX4_setInRoots_10 : decode cX4_setInRoots 10 = .ok (.iconst 1, 1) := by decide +kernel
theorem dX4_setInRoots_11 : decode cX4_setInRoots 11 = .ok (.lload_n 0, 1) := by decide +kernel
theorem dX4_setInRoots_12 : decode cX4_setInRoots 12 = .ok (.bipush 24, 2) := by decide +kernel
theorem dX4_setInRoots_14 : decode cX4_setInRoots 14 = .ok (.iconst 3, 1) := by decide +kernel
theorem dX4_setInRoots_15 : decode cX4_setInRoots 15 = .ok (.iload_n 3, 1) := by decide +kernel
theorem dX4_setInRoots_16 : decode cX4_setInRoots 16 = .ok (.imul, 1) := by decide +kernel
theorem dX4_setInRoots_17 : decode cX4_setInRoots 17 = .ok (.iadd, 1) := by decide +kernel
theorem dX4_setInRoots_18 : decode cX4_setInRoots 18 = .ok (.lushr, 1) := by decide +kernel
theorem dX4_setInRoots_19 : decode cX4_setInRoots 19 = .ok (.l2i, 1) := by decide +kernel
theorem dX4_setInRoots_20 : decode cX4_setInRoots 20 = .ok (.bipush 7, 2) := by decide +kernel
theorem dX4_setInRoots_22 : decode cX4_setInRoots 22 = .ok (.iand, 1) := by decide +kernel
theorem dX4_setInRoots_23 : decode cX4_setInRoots 23 = .ok (.ishl, 1) := by decide +kernel
theorem dX4_setInRoots_24 : decode cX4_setInRoots 24 = .ok (.ior, 1) := by decide +kernel
theorem dX4_setInRoots_25 : decode cX4_setInRoots 25 = .ok (.istore_n 2, 1) := by decide +kernel
theorem dX4_setInRoots_26 : decode cX4_setInRoots 26 = .ok (.iinc 3 1, 3) := by decide +kernel
theorem dX4_setInRoots_29 : decode cX4_setInRoots 29 = .ok (.goto (-25), 3) := by decide +kernel
theorem dX4_setInRoots_32 : decode cX4_setInRoots 32 = .ok (.iload_n 2, 1) := by decide +kernel
theorem dX4_setInRoots_33 : decode cX4_setInRoots 33 = .ok (.iconst 1, 1) := by decide +kernel
theorem dX4_setInRoots_34 : decode cX4_setInRoots 34 = .ok (.iushr, 1) := by decide +kernel
theorem dX4_setInRoots_35 : decode cX4_setInRoots 35 = .ok (.ireturn, 1) := by decide +kernel
theorem dX4_setInFields_0 : decode cX4_setInFields 0 = .ok (.iconst 0, 1) := by decide +kernel
theorem dX4_setInFields_1 : decode cX4_setInFields 1 = .ok (.istore_n 3, 1) := by decide +kernel
theorem dX4_setInFields_2 : decode cX4_setInFields 2 = .ok (.iconst 0, 1) := by decide +kernel
theorem dX4_setInFields_3 : decode cX4_setInFields 3 = .ok (.istore 4, 2) := by decide +kernel
theorem dX4_setInFields_5 : decode cX4_setInFields 5 = .ok (.iload 4, 2) := by decide +kernel
theorem dX4_setInFields_7 : decode cX4_setInFields 7 = .ok (.iconst 4, 1) := by decide +kernel
theorem dX4_setInFields_8 : decode cX4_setInFields 8 = .ok (.if_icmp .ge 48, 3) := by decide +kernel
theorem dX4_setInFields_11 : decode cX4_setInFields 11 = .ok (.iload_n 2, 1) := by decide +kernel
theorem dX4_setInFields_12 : decode cX4_setInFields 12 = .ok (.iload 4, 2) := by decide +kernel
theorem dX4_setInFields_14 : decode cX4_setInFields 14 = .ok (.iushr, 1) := by decide +kernel
theorem dX4_setInFields_15 : decode cX4_setInFields 15 = .ok (.iconst 1, 1) := by decide +kernel
theorem dX4_setInFields_16 : decode cX4_setInFields 16 = .ok (.iand, 1) := by decide +kernel
theorem dX4_setInFields_17 : decode cX4_setInFields 17 = .ok (.ifCond .eq 33, 3) := by decide +kernel
theorem dX4_setInFields_20 : decode cX4_setInFields 20 = .ok (.lload_n 0, 1) := by decide +kernel
theorem dX4_setInFields_21 : decode cX4_setInFields 21 = .ok (.bipush 6, 2) := by decide +kernel
theorem dX4_setInFields_23 : decode cX4_setInFields 23 = .ok (.iload 4, 2) := by decide +kernel
theorem dX4_setInFields_25 : decode cX4_setInFields 25 = .ok (.imul, 1) := by decide +kernel
theorem dX4_setInFields_26 : decode cX4_setInFields 26 = .ok (.lushr, 1) := by decide +kernel
theorem dX4_setInFields_27 : decode cX4_setInFields 27 = .ok (.l2i, 1) := by decide +kernel
theorem dX4_setInFields_28 : decode cX4_setInFields 28 = .ok (.bipush 63, 2) := by decide +kernel
theorem dX4_setInFields_30 : decode cX4_setInFields 30 = .ok (.iand, 1) := by decide +kernel
theorem dX4_setInFields_31 : decode cX4_setInFields 31 = .ok (.istore 5, 2) := by decide +kernel
theorem dX4_setInFields_33 : decode cX4_setInFields 33 = .ok (.iload_n 3, 1) := by decide +kernel
theorem dX4_setInFields_34 : decode cX4_setInFields 34 = .ok (.iconst 1, 1) := by decide +kernel
theorem dX4_setInFields_35 : decode cX4_setInFields 35 = .ok (.iload 5, 2) := by decide +kernel
theorem dX4_setInFields_37 : decode cX4_setInFields 37 = .ok (.bipush 7, 2) := by decide +kernel
theorem dX4_setInFields_39 : decode cX4_setInFields 39 = .ok (.iand, 1) := by decide +kernel
theorem dX4_setInFields_40 : decode cX4_setInFields 40 = .ok (.ishl, 1) := by decide +kernel
theorem dX4_setInFields_41 : decode cX4_setInFields 41 = .ok (.iconst 1, 1) := by decide +kernel
theorem dX4_setInFields_42 : decode cX4_setInFields 42 = .ok (.iload 5, 2) := by decide +kernel
theorem dX4_setInFields_44 : decode cX4_setInFields 44 = .ok (.iconst 3, 1) := by decide +kernel
theorem dX4_setInFields_45 : decode cX4_setInFields 45 = .ok (.iushr, 1) := by decide +kernel
theorem dX4_setInFields_46 : decode cX4_setInFields 46 = .ok (.ishl, 1) := by decide +kernel
theorem dX4_setInFields_47 : decode cX4_setInFields 47 = .ok (.ior, 1) := by decide +kernel
theorem dX4_setInFields_48 : decode cX4_setInFields 48 = .ok (.ior, 1) := by decide +kernel
theorem dX4_setInFields_49 : decode cX4_setInFields 49 = .ok (.istore_n 3, 1) := by decide +kernel
theorem dX4_setInFields_50 : decode cX4_setInFields 50 = .ok (.iinc 4 1, 3) := by decide +kernel
theorem dX4_setInFields_53 : decode cX4_setInFields 53 = .ok (.goto (-48), 3) := by decide +kernel
theorem dX4_setInFields_56 : decode cX4_setInFields 56 = .ok (.iload_n 3, 1) := by decide +kernel
theorem dX4_setInFields_57 : decode cX4_setInFields 57 = .ok (.iconst 1, 1) := by decide +kernel
theorem dX4_setInFields_58 : decode cX4_setInFields 58 = .ok (.iushr, 1) := by decide +kernel
theorem dX4_setInFields_59 : decode cX4_setInFields 59 = .ok (.ireturn, 1) := by decide +kernel
theorem dX4_greys_0 : decode cX4_greys 0 = .ok (.lload_n 0, 1) := by decide +kernel
theorem dX4_greys_1 : decode cX4_greys 1 = .ok (.bipush 33, 2) := by decide +kernel
theorem dX4_greys_3 : decode cX4_greys 3 = .ok (.lushr, 1) := by decide +kernel
theorem dX4_greys_4 : decode cX4_greys 4 = .ok (.l2i, 1) := by decide +kernel
theorem dX4_greys_5 : decode cX4_greys 5 = .ok (.bipush 15, 2) := by decide +kernel
theorem dX4_greys_7 : decode cX4_greys 7 = .ok (.iand, 1) := by decide +kernel
theorem dX4_greys_8 : decode cX4_greys 8 = .ok (.ireturn, 1) := by decide +kernel
theorem dX4_blacks_0 : decode cX4_blacks 0 = .ok (.lload_n 0, 1) := by decide +kernel
theorem dX4_blacks_1 : decode cX4_blacks 1 = .ok (.bipush 37, 2) := by decide +kernel
theorem dX4_blacks_3 : decode cX4_blacks 3 = .ok (.lushr, 1) := by decide +kernel
theorem dX4_blacks_4 : decode cX4_blacks 4 = .ok (.l2i, 1) := by decide +kernel
theorem dX4_blacks_5 : decode cX4_blacks 5 = .ok (.bipush 15, 2) := by decide +kernel
theorem dX4_blacks_7 : decode cX4_blacks 7 = .ok (.iand, 1) := by decide +kernel
theorem dX4_blacks_8 : decode cX4_blacks 8 = .ok (.ireturn, 1) := by decide +kernel
set_option maxRecDepth 20000 in
theorem ggX4_whites_X4_greys : GoodIn wsX4_whites wsX4_greys := goodIn_r _ [4] (by decide +kernel) (by decide +kernel)
set_option maxRecDepth 20000 in
theorem gX4_whites_X4_greys : GoodIn wsX4_whites (va_wsS RX4 23 yX4_greys wsX4_greys) := goodIn_app (goodIn_of _ (by decide +kernel)) ggX4_whites_X4_greys
set_option maxRecDepth 20000 in
theorem ggX4_whites_X4_blacks : GoodIn wsX4_whites wsX4_blacks := goodIn_r _ [7] (by decide +kernel) (by decide +kernel)
set_option maxRecDepth 20000 in
theorem gX4_whites_X4_blacks : GoodIn wsX4_whites (va_wsS RX4 27 yX4_blacks wsX4_blacks) := goodIn_app (goodIn_of _ (by decide +kernel)) ggX4_whites_X4_blacks
theorem dX4_whites_0 : decode cX4_whites 0 = .ok (.lload_n 0, 1) := by decide +kernel
theorem dX4_whites_1 : decode cX4_whites 1 = .ok (.invokestatic 23, 3) := by decide +kernel
theorem dX4_whites_4 : decode cX4_whites 4 = .ok (.lload_n 0, 1) := by decide +kernel
theorem dX4_whites_5 : decode cX4_whites 5 = .ok (.invokestatic 27, 3) := by decide +kernel
theorem dX4_whites_8 : decode cX4_whites 8 = .ok (.ior, 1) := by decide +kernel
theorem dX4_whites_9 : decode cX4_whites 9 = .ok (.iconst (-1), 1) := by decide +kernel
theorem dX4_whites_10 : decode cX4_whites 10 = .ok (.ixor, 1) := by decide +kernel
theorem dX4_whites_11 : decode cX4_whites 11 = .ok (.bipush 15, 2) := by decide +kernel
theorem dX4_whites_13 : decode cX4_whites 13 = .ok (.iand, 1) := by decide +kernel
theorem dX4_whites_14 : decode cX4_whites 14 = .ok (.ireturn, 1) := by decide +kernel
theorem dX4_isBlack_0 : decode cX4_isBlack 0 = .ok (.lload_n 0, 1) := by decide +kernel
theorem dX4_isBlack_1 : decode cX4_isBlack 1 = .ok (.bipush 37, 2) := by decide +kernel
theorem dX4_isBlack_3 : decode cX4_isBlack 3 = .ok (.iload_n 2, 1) := by decide +kernel
theorem dX4_isBlack_4 : decode cX4_isBlack 4 = .ok (.iadd, 1) := by decide +kernel
theorem dX4_isBlack_5 : decode cX4_isBlack 5 = .ok (.lushr, 1) := by decide +kernel
theorem dX4_isBlack_6 : decode cX4_isBlack 6 = .ok (.lconst 1, 1) := by decide +kernel
theorem dX4_isBlack_7 : decode cX4_isBlack 7 = .ok (.land, 1) := by decide +kernel
theorem dX4_isBlack_8 : decode cX4_isBlack 8 = .ok (.lconst 0, 1) := by decide +kernel
theorem dX4_isBlack_9 : decode cX4_isBlack 9 = .ok (.lcmp, 1) := by decide +kernel
theorem dX4_isBlack_10 : decode cX4_isBlack 10 = .ok (.ifCond .eq 7, 3) := by decide +kernel
theorem dX4_isBlack_13 : decode cX4_isBlack 13 = .ok (.iconst 1, 1) := by decide +kernel
theorem dX4_isBlack_14 : decode cX4_isBlack 14 = .ok (.goto 4, 3) := by decide +kernel
theorem dX4_isBlack_17 : decode cX4_isBlack 17 = .ok (.iconst 0, 1) := by decide +kernel
theorem dX4_isBlack_18 : decode cX4_isBlack 18 = .ok (.ireturn, 1) := by decide +kernel
set_option maxRecDepth 20000 in
theorem ggX4_isWhite_X4_greyIfWhite : GoodIn wsX4_isWhite wsX4_greyIfWhite := goodIn_r _ [4] (by decide +kernel) (by decide +kernel)
set_option maxRecDepth 20000 in
theorem gX4_isWhite_X4_greyIfWhite : GoodIn wsX4_isWhite (va_wsS RX4 30 yX4_greyIfWhite wsX4_greyIfWhite) := goodIn_app (goodIn_of _ (by decide +kernel)) ggX4_isWhite_X4_greyIfWhite
theorem dX4_isWhite_0 : decode cX4_isWhite 0 = .ok (.lload_n 0, 1) := by decide +kernel
theorem dX4_isWhite_1 : decode cX4_isWhite 1 = .ok (.iload_n 2, 1) := by decide +kernel
theorem dX4_isWhite_2 : decode cX4_isWhite 2 = .ok (.invokestatic 30, 3) := by decide +kernel
theorem dX4_isWhite_5 : decode cX4_isWhite 5 = .ok (.lload_n 0, 1) := by decide +kernel
theorem dX4_isWhite_6 : decode cX4_isWhite 6 = .ok (.lcmp, 1) := by decide +kernel
theorem dX4_isWhite_7 : decode cX4_isWhite 7 = .ok (.ifCond .eq 7, 3) := by decide +kernel
theorem dX4_isWhite_10 : decode cX4_isWhite 10 = .ok (.iconst 1, 1) := by decide +kernel
theorem dX4_isWhite_11 : decode cX4_isWhite 11 = .ok (.goto 4, 3) := by decide +kernel
theorem dX4_isWhite_14 : decode cX4_isWhite 14 = .ok (.iconst 0, 1) := by decide +kernel
theorem dX4_isWhite_15 : decode cX4_isWhite 15 = .ok (.ireturn, 1) := by decide +kernel
theorem dX4_greyIfWhite_0 : decode cX4_greyIfWhite 0 = .ok (.iload_n 2, 1) := by decide +kernel
theorem dX4_greyIfWhite_1 : decode cX4_greyIfWhite 1 = .ok (.iconst (-1), 1) := by decide +kernel
theorem dX4_greyIfWhite_2 : decode cX4_greyIfWhite 2 = .ok (.if_icmp .ne 5, 3) := by decide +kernel
theorem dX4_greyIfWhite_5 : decode cX4_greyIfWhite 5 = .ok (.lload_n 0, 1) := by decide +kernel
theorem dX4_greyIfWhite_6 : decode cX4_greyIfWhite 6 = .ok (.lreturn, 1) := by decide +kernel
theorem dX4_greyIfWhite_7 : decode cX4_greyIfWhite 7 = .ok (.lload_n 0, 1) := by decide +kernel
theorem dX4_greyIfWhite_8 : decode cX4_greyIfWhite 8 = .ok (.bipush 33, 2) := by decide +kernel
theorem dX4_greyIfWhite_10 : decode cX4_greyIfWhite 10 = .ok (.iload_n 2, 1) := by decide +kernel
theorem dX4_greyIfWhite_11 : decode cX4_greyIfWhite 11 = .ok (.iadd, 1) := by decide +kernel
theorem dX4_greyIfWhite_12 : decode cX4_greyIfWhite 12 = .ok (.lushr, 1) := by decide +kernel
theorem dX4_greyIfWhite_13 : decode cX4_greyIfWhite 13 = .ok (.lload_n 0, 1) := by decide +kernel
theorem dX4_greyIfWhite_14 : decode cX4_greyIfWhite 14 = .ok (.bipush 37, 2) := by decide +kernel
theorem dX4_greyIfWhite_16 : decode cX4_greyIfWhite 16 = .ok (.iload_n 2, 1) := by decide +kernel
theorem dX4_greyIfWhite_17 : decode cX4_greyIfWhite 17 = .ok (.iadd, 1) := by decide +kernel
theorem dX4_greyIfWhite_18 : decode cX4_greyIfWhite 18 = .ok (.lushr, 1) := by decide +kernel
theorem dX4_greyIfWhite_19 : decode cX4_greyIfWhite 19 = .ok (.lor, 1) := by decide +kernel
theorem dX4_greyIfWhite_20 : decode cX4_greyIfWhite 20 = .ok (.lconst 1, 1) := by decide +kernel
theorem dX4_greyIfWhite_21 : decode cX4_greyIfWhite 21 = .ok (.land, 1) := by decide +kernel
theorem dX4_greyIfWhite_22 : decode cX4_greyIfWhite 22 = .ok (.lstore_n 3, 1) := by decide +kernel
theorem dX4_greyIfWhite_23 : decode cX4_greyIfWhite 23 = .ok (.lload_n 3, 1) := by decide +kernel
theorem dX4_greyIfWhite_24 : decode cX4_greyIfWhite 24 = .ok (.lconst 0, 1) := by decide +kernel
theorem dX4_greyIfWhite_25 : decode cX4_greyIfWhite 25 = .ok (.lcmp, 1) := by decide +kernel
theorem dX4_greyIfWhite_26 : decode cX4_greyIfWhite 26 = .ok (.ifCond .eq 7, 3) := by decide +kernel
theorem dX4_greyIfWhite_29 : decode cX4_greyIfWhite 29 = .ok (.lload_n 0, 1) := by decide +kernel
theorem dX4_greyIfWhite_30 : decode cX4_greyIfWhite 30 = .ok (.goto 11, 3) := by decide +kernel
theorem dX4_greyIfWhite_33 : decode cX4_greyIfWhite 33 = .ok (.lload_n 0, 1) := by decide +kernel
theorem dX4_greyIfWhite_34 : decode cX4_greyIfWhite 34 = .ok (.lconst 1, 1) := by decide +kernel
theorem dX4_greyIfWhite_35 : decode cX4_greyIfWhite 35 = .ok (.bipush 33, 2) := by decide +kernel
theorem dX4_greyIfWhite_37 : decode cX4_greyIfWhite 37 = .ok (.iload_n 2, 1) := by decide +kernel
theorem dX4_greyIfWhite_38 : decode cX4_greyIfWhite 38 = .ok (.iadd, 1) := by decide +kernel
theorem dX4_greyIfWhite_39 : decode cX4_greyIfWhite 39 = .ok (.lshl, 1) := by decide +kernel
theorem dX4_greyIfWhite_40 : decode cX4_greyIfWhite 40 = .ok (.lor, 1) := by decide +kernel
theorem dX4_greyIfWhite_41 : decode cX4_greyIfWhite 41 = .ok (.lreturn, 1) := by decide +kernel
theorem dX4_leastGrey_0 : decode cX4_leastGrey 0 = .ok (.iconst 0, 1) := by decide +kernel
theorem dX4_leastGrey_1 : decode cX4_leastGrey 1 = .ok (.istore_n 2, 1) := by decide +kernel
theorem dX4_leastGrey_2 : decode cX4_leastGrey 2 = .ok (.iload_n 2, 1) := by decide +kernel
theorem dX4_leastGrey_3 : decode cX4_leastGrey 3 = .ok (.iconst 4, 1) := by decide +kernel
theorem dX4_leastGrey_4 : decode cX4_leastGrey 4 = .ok (.if_icmp .ge 24, 3) := by decide +kernel
theorem dX4_leastGrey_7 : decode cX4_leastGrey 7 = .ok (.lload_n 0, 1) := by decide +kernel
theorem dX4_leastGrey_8 : decode cX4_leastGrey 8 = .ok (.bipush 33, 2) := by decide +kernel
theorem dX4_leastGrey_10 : decode cX4_leastGrey 10 = .ok (.iload_n 2, 1) := by decide +kernel
theorem dX4_leastGrey_11 : decode cX4_leastGrey 11 = .ok (.iadd, 1) := by decide +kernel
theorem dX4_leastGrey_12 : decode cX4_leastGrey 12 = .ok (.lushr, 1) := by decide +kernel
theorem dX4_leastGrey_13 : decode cX4_leastGrey 13 = .ok (.lconst 1, 1) := by decide +kernel
theorem dX4_leastGrey_14 : decode cX4_leastGrey 14 = .ok (.land, 1) := by decide +kernel
theorem dX4_leastGrey_15 : decode cX4_leastGrey 15 = .ok (.lconst 0, 1) := by decide +kernel
theorem dX4_leastGrey_16 : decode cX4_leastGrey 16 = .ok (.lcmp, 1) := by decide +kernel
theorem dX4_leastGrey_17 : decode cX4_leastGrey 17 = .ok (.ifCond .eq 5, 3) := by decide +kernel
theorem dX4_leastGrey_20 : decode cX4_leastGrey 20 = .ok (.iload_n 2, 1) := by decide +kernel
theorem dX4_leastGrey_21 : decode cX4_leastGrey 21 = .ok (.ireturn, 1) := by decide +kernel
theorem dX4_leastGrey_22 : decode cX4_leastGrey 22 = .ok (.iinc 2 1, 3) := by decide +kernel
theorem dX4_leastGrey_25 : decode cX4_leastGrey 25 = .ok (.goto (-23), 3) := by decide +kernel
theorem dX4_leastGrey_28 : decode cX4_leastGrey 28 = .ok (.iconst (-1), 1) := by decide +kernel
theorem dX4_leastGrey_29 : decode cX4_leastGrey 29 = .ok (.ireturn, 1) := by decide +kernel
theorem dX4_greyAgain_0 : decode cX4_greyAgain 0 = .ok (.lload_n 0, 1) := by decide +kernel
theorem dX4_greyAgain_1 : decode cX4_greyAgain 1 = .ok (.lconst 1, 1) := by decide +kernel
theorem dX4_greyAgain_2 : decode cX4_greyAgain 2 = .ok (.bipush 37, 2) := by decide +kernel
theorem dX4_greyAgain_4 : decode cX4_greyAgain 4 = .ok (.iload_n 2, 1) := by decide +kernel
theorem dX4_greyAgain_5 : decode cX4_greyAgain 5 = .ok (.iadd, 1) := by decide +kernel
theorem dX4_greyAgain_6 : decode cX4_greyAgain 6 = .ok (.lshl, 1) := by decide +kernel
theorem dX4_greyAgain_7 : decode cX4_greyAgain 7 = .ok (.ldc2_w 17, 3) := by decide +kernel
theorem dX4_greyAgain_10 : decode cX4_greyAgain 10 = .ok (.lxor, 1) := by decide +kernel
theorem dX4_greyAgain_11 : decode cX4_greyAgain 11 = .ok (.land, 1) := by decide +kernel
theorem dX4_greyAgain_12 : decode cX4_greyAgain 12 = .ok (.lconst 1, 1) := by decide +kernel
theorem dX4_greyAgain_13 : decode cX4_greyAgain 13 = .ok (.bipush 33, 2) := by decide +kernel
theorem dX4_greyAgain_15 : decode cX4_greyAgain 15 = .ok (.iload_n 2, 1) := by decide +kernel
theorem dX4_greyAgain_16 : decode cX4_greyAgain 16 = .ok (.iadd, 1) := by decide +kernel
theorem dX4_greyAgain_17 : decode cX4_greyAgain 17 = .ok (.lshl, 1) := by decide +kernel
theorem dX4_greyAgain_18 : decode cX4_greyAgain 18 = .ok (.lor, 1) := by decide +kernel
theorem dX4_greyAgain_19 : decode cX4_greyAgain 19 = .ok (.lreturn, 1) := by decide +kernel
theorem dX4_blackened_0 : decode cX4_blackened 0 = .ok (.lload_n 0, 1) := by decide +kernel
theorem dX4_blackened_1 : decode cX4_blackened 1 = .ok (.lconst 1, 1) := by decide +kernel
theorem dX4_blackened_2 : decode cX4_blackened 2 = .ok (.bipush 33, 2) := by decide +kernel
theorem dX4_blackened_4 : decode cX4_blackened 4 = .ok (.iload_n 2, 1) := by decide +kernel
theorem dX4_blackened_5 : decode cX4_blackened 5 = .ok (.iadd, 1) := by decide +kernel
theorem dX4_blackened_6 : decode cX4_blackened 6 = .ok (.lshl, 1) := by decide +kernel
theorem dX4_blackened_7 : decode cX4_blackened 7 = .ok (.ldc2_w 17, 3) := by decide +kernel
theorem dX4_blackened_10 : decode cX4_blackened 10 = .ok (.lxor, 1) := by decide +kernel
theorem dX4_blackened_11 : decode cX4_blackened 11 = .ok (.land, 1) := by decide +kernel
theorem dX4_blackened_12 : decode cX4_blackened 12 = .ok (.lconst 1, 1) := by decide +kernel
theorem dX4_blackened_13 : decode cX4_blackened 13 = .ok (.bipush 41, 2) := by decide +kernel
theorem dX4_blackened_15 : decode cX4_blackened 15 = .ok (.iload_n 2, 1) := by decide +kernel
theorem dX4_blackened_16 : decode cX4_blackened 16 = .ok (.iadd, 1) := by decide +kernel
theorem dX4_blackened_17 : decode cX4_blackened 17 = .ok (.lshl, 1) := by decide +kernel
theorem dX4_blackened_18 : decode cX4_blackened 18 = .ok (.ldc2_w 17, 3) := by decide +kernel
theorem dX4_blackened_21 : decode cX4_blackened 21 = .ok (.lxor, 1) := by decide +kernel
theorem dX4_blackened_22 : decode cX4_blackened 22 = .ok (.land, 1) := by decide +kernel
theorem dX4_blackened_23 : decode cX4_blackened 23 = .ok (.lstore_n 3, 1) := by decide +kernel
theorem dX4_blackened_24 : decode cX4_blackened 24 = .ok (.lload_n 3, 1) := by decide +kernel
theorem dX4_blackened_25 : decode cX4_blackened 25 = .ok (.lconst 1, 1) := by decide +kernel
theorem dX4_blackened_26 : decode cX4_blackened 26 = .ok (.bipush 37, 2) := by decide +kernel
theorem dX4_blackened_28 : decode cX4_blackened 28 = .ok (.iload_n 2, 1) := by decide +kernel
theorem dX4_blackened_29 : decode cX4_blackened 29 = .ok (.iadd, 1) := by decide +kernel
theorem dX4_blackened_30 : decode cX4_blackened 30 = .ok (.lshl, 1) := by decide +kernel
theorem dX4_blackened_31 : decode cX4_blackened 31 = .ok (.lor, 1) := by decide +kernel
theorem dX4_blackened_32 : decode cX4_blackened 32 = .ok (.lreturn, 1) := by decide +kernel
theorem dX4_fieldsLookedAt_0 : decode cX4_fieldsLookedAt 0 = .ok (.lload_n 0, 1) := by decide +kernel
theorem dX4_fieldsLookedAt_1 : decode cX4_fieldsLookedAt 1 = .ok (.bipush 41, 2) := by decide +kernel
theorem dX4_fieldsLookedAt_3 : decode cX4_fieldsLookedAt 3 = .ok (.iload_n 2, 1) := by decide +kernel
theorem dX4_fieldsLookedAt_4 : decode cX4_fieldsLookedAt 4 = .ok (.iadd, 1) := by decide +kernel
theorem dX4_fieldsLookedAt_5 : decode cX4_fieldsLookedAt 5 = .ok (.lushr, 1) := by decide +kernel
theorem dX4_fieldsLookedAt_6 : decode cX4_fieldsLookedAt 6 = .ok (.l2i, 1) := by decide +kernel
theorem dX4_fieldsLookedAt_7 : decode cX4_fieldsLookedAt 7 = .ok (.iconst 1, 1) := by decide +kernel
theorem dX4_fieldsLookedAt_8 : decode cX4_fieldsLookedAt 8 = .ok (.iand, 1) := by decide +kernel
theorem dX4_fieldsLookedAt_9 : decode cX4_fieldsLookedAt 9 = .ok (.ireturn, 1) := by decide +kernel
theorem dX4_withFirstFieldLookedAt_0 : decode cX4_withFirstFieldLookedAt 0 = .ok (.lload_n 0, 1) := by decide +kernel
theorem dX4_withFirstFieldLookedAt_1 : decode cX4_withFirstFieldLookedAt 1 = .ok (.lconst 1, 1) := by decide +kernel
theorem dX4_withFirstFieldLookedAt_2 : decode cX4_withFirstFieldLookedAt 2 = .ok (.bipush 41, 2) := by decide +kernel
theorem dX4_withFirstFieldLookedAt_4 : decode cX4_withFirstFieldLookedAt 4 = .ok (.iload_n 2, 1) := by decide +kernel
theorem dX4_withFirstFieldLookedAt_5 : decode cX4_withFirstFieldLookedAt 5 = .ok (.iadd, 1) := by decide +kernel
theorem dX4_withFirstFieldLookedAt_6 : decode cX4_withFirstFieldLookedAt 6 = .ok (.lshl, 1) := by decide +kernel
theorem dX4_withFirstFieldLookedAt_7 : decode cX4_withFirstFieldLookedAt 7 = .ok (.lor, 1) := by decide +kernel
theorem dX4_withFirstFieldLookedAt_8 : decode cX4_withFirstFieldLookedAt 8 = .ok (.lreturn, 1) := by decide +kernel
theorem dX4_rootsLookedAt_0 : decode cX4_rootsLookedAt 0 = .ok (.lload_n 0, 1) := by decide +kernel
theorem dX4_rootsLookedAt_1 : decode cX4_rootsLookedAt 1 = .ok (.bipush 45, 2) := by decide +kernel
theorem dX4_rootsLookedAt_3 : decode cX4_rootsLookedAt 3 = .ok (.lushr, 1) := by decide +kernel
theorem dX4_rootsLookedAt_4 : decode cX4_rootsLookedAt 4 = .ok (.l2i, 1) := by decide +kernel
theorem dX4_rootsLookedAt_5 : decode cX4_rootsLookedAt 5 = .ok (.iconst 3, 1) := by decide +kernel
theorem dX4_rootsLookedAt_6 : decode cX4_rootsLookedAt 6 = .ok (.iand, 1) := by decide +kernel
theorem dX4_rootsLookedAt_7 : decode cX4_rootsLookedAt 7 = .ok (.ireturn, 1) := by decide +kernel
theorem dX4_withOneMoreRootLookedAt_0 : decode cX4_withOneMoreRootLookedAt 0 = .ok (.lload_n 0, 1) := by decide +kernel
theorem dX4_withOneMoreRootLookedAt_1 : decode cX4_withOneMoreRootLookedAt 1 = .ok (.ldc2_w 34, 3) := by decide +kernel
theorem dX4_withOneMoreRootLookedAt_4 : decode cX4_withOneMoreRootLookedAt 4 = .ok (.ladd, 1) := by decide +kernel
theorem dX4_withOneMoreRootLookedAt_5 : decode cX4_withOneMoreRootLookedAt 5 = .ok (.lreturn, 1) := by decide +kernel
theorem dX4_isOver_0 : decode cX4_isOver 0 = .ok (.lload_n 0, 1) := by decide +kernel
theorem dX4_isOver_1 : decode cX4_isOver 1 = .ok (.bipush 47, 2) := by decide +kernel
theorem dX4_isOver_3 : decode cX4_isOver 3 = .ok (.lushr, 1) := by decide +kernel
theorem dX4_isOver_4 : decode cX4_isOver 4 = .ok (.lconst 1, 1) := by decide +kernel
theorem dX4_isOver_5 : decode cX4_isOver 5 = .ok (.land, 1) := by decide +kernel
theorem dX4_isOver_6 : decode cX4_isOver 6 = .ok (.lconst 0, 1) := by decide +kernel
theorem dX4_isOver_7 : decode cX4_isOver 7 = .ok (.lcmp, 1) := by decide +kernel
theorem dX4_isOver_8 : decode cX4_isOver 8 = .ok (.ifCond .eq 7, 3) := by decide +kernel
theorem dX4_isOver_11 : decode cX4_isOver 11 = .ok (.iconst 1, 1) := by decide +kernel
theorem dX4_isOver_12 : decode cX4_isOver 12 = .ok (.goto 4, 3) := by decide +kernel
theorem dX4_isOver_15 : decode cX4_isOver 15 = .ok (.iconst 0, 1) := by decide +kernel
theorem dX4_isOver_16 : decode cX4_isOver 16 = .ok (.ireturn, 1) := by decide +kernel
theorem dX4_ended_0 : decode cX4_ended 0 = .ok (.lload_n 0, 1) := by decide +kernel
theorem dX4_ended_1 : decode cX4_ended 1 = .ok (.ldc2_w 36, 3) := by decide +kernel
theorem dX4_ended_4 : decode cX4_ended 4 = .ok (.lor, 1) := by decide +kernel
theorem dX4_ended_5 : decode cX4_ended 5 = .ok (.lreturn, 1) := by decide +kernel
theorem dX4_actsLeft_0 : decode cX4_actsLeft 0 = .ok (.lload_n 0, 1) := by decide +kernel
theorem dX4_actsLeft_1 : decode cX4_actsLeft 1 = .ok (.bipush 48, 2) := by decide +kernel
theorem dX4_actsLeft_3 : decode cX4_actsLeft 3 = .ok (.lushr, 1) := by decide +kernel
theorem dX4_actsLeft_4 : decode cX4_actsLeft 4 = .ok (.l2i, 1) := by decide +kernel
theorem dX4_actsLeft_5 : decode cX4_actsLeft 5 = .ok (.bipush 15, 2) := by decide +kernel
theorem dX4_actsLeft_7 : decode cX4_actsLeft 7 = .ok (.iand, 1) := by decide +kernel
theorem dX4_actsLeft_8 : decode cX4_actsLeft 8 = .ok (.ireturn, 1) := by decide +kernel
theorem dX4_withActsLeft_0 : decode cX4_withActsLeft 0 = .ok (.lload_n 0, 1) := by decide +kernel
theorem dX4_withActsLeft_1 : decode cX4_withActsLeft 1 = .ok (.ldc2_w 38, 3) := by decide +kernel
theorem dX4_withActsLeft_4 : decode cX4_withActsLeft 4 = .ok (.land, 1) := by decide +kernel
theorem dX4_withActsLeft_5 : decode cX4_withActsLeft 5 = .ok (.iload_n 2, 1) := by decide +kernel
theorem dX4_withActsLeft_6 : decode cX4_withActsLeft 6 = .ok (.i2l, 1) := by decide +kernel
theorem dX4_withActsLeft_7 : decode cX4_withActsLeft 7 = .ok (.bipush 48, 2) := by decide +kernel
theorem dX4_withActsLeft_9 : decode cX4_withActsLeft 9 = .ok (.lshl, 1) := by decide +kernel
theorem dX4_withActsLeft_10 : decode cX4_withActsLeft 10 = .ok (.lor, 1) := by decide +kernel
theorem dX4_withActsLeft_11 : decode cX4_withActsLeft 11 = .ok (.lreturn, 1) := by decide +kernel
set_option maxRecDepth 20000 in
theorem ggX5_init_X3_init : GoodIn wsX5_init wsX3_init := goodIn_r _ [18, 19, 2, 3, 20, 21, 22, 23, 24, 25, 54, 55, 56, 57, 58, 59] (by decide +kernel) (by decide +kernel)
set_option maxRecDepth 20000 in
theorem gX5_init_X3_init_n9 : GoodIn wsX5_init (wsX3_init) := ggX5_init_X3_init
set_option maxRecDepth 20000 in
theorem ggX5_init_X1_init : GoodIn wsX5_init wsX1_init := goodIn_r _ [28, 29, 2, 3, 30, 64] (by decide +kernel) (by decide +kernel)
set_option maxRecDepth 20000 in
theorem gX5_init_X1_init : GoodIn wsX5_init (wsX1_init) := ggX5_init_X1_init
set_option maxRecDepth 20000 in
theorem ggX5_init_X2_init : GoodIn wsX5_init wsX2_init := goodIn_r _ [33, 34, 2, 3, 35, 36, 37, 38, 39, 40, 41, 42, 43, 44, 65, 66, 67, 68, 69, 70, 71] (by decide +kernel) (by decide +kernel)
set_option maxRecDepth 20000 in
theorem gX5_init_X2_init : GoodIn wsX5_init (wsX2_init) := ggX5_init_X2_init
set_option maxRecDepth 20000 in
theorem ggX5_init_X3_firstState : GoodIn wsX5_init wsX3_firstState := goodIn_r _ [48, 25, 24, 49, 50, 51, 52, 53, 54, 55, 56, 57, 58, 59] (by decide +kernel) (by decide +kernel)
set_option maxRecDepth 20000 in
theorem gX5_init_X3_firstState : GoodIn wsX5_init (wsV RX5 34 RX3 yX3_firstState wsX3_firstState) := goodIn_app (goodIn_of _ (by decide +kernel)) ggX5_init_X3_firstState
theorem dX5_init_0 : decode cX5_init 0 = .ok (.aload_n 0, 1) := by decide +kernel
theorem dX5_init_1 : decode cX5_init 1 = .ok (.invokespecial 1, 3) := by decide +kernel
theorem dX5_init_4 : decode cX5_init 4 = .ok (.aload_n 0, 1) := by decide +kernel
theorem dX5_init_5 : decode cX5_init 5 = .ok (.new 7, 3) := by decide +kernel
theorem dX5_init_8 : decode cX5_init 8 = .ok (.dup, 1) := by decide +kernel
theorem dX5_init_9 : decode cX5_init 9 = .ok (.invokespecial 9, 3) := by decide +kernel
theorem dX5_init_12 : decode cX5_init 12 = .ok (.putfield 10, 3) := by decide +kernel
theorem dX5_init_15 : decode cX5_init 15 = .ok (.aload_n 0, 1) := by decide +kernel
theorem dX5_init_16 : decode cX5_init 16 = .ok (.new 16, 3) := by decide +kernel
theorem dX5_init_19 : decode cX5_init 19 = .ok (.dup, 1) := by decide +kernel
theorem dX5_init_20 : decode cX5_init 20 = .ok (.aload_n 0, 1) := by decide +kernel
theorem dX5_init_21 : decode cX5_init 21 = .ok (.getfield 10, 3) := by decide +kernel
theorem dX5_init_24 : decode cX5_init 24 = .ok (.invokespecial 18, 3) := by decide +kernel
theorem dX5_init_27 : decode cX5_init 27 = .ok (.putfield 21, 3) := by decide +kernel
theorem dX5_init_30 : decode cX5_init 30 = .ok (.aload_n 0, 1) := by decide +kernel
theorem dX5_init_31 : decode cX5_init 31 = .ok (.new 25, 3) := by decide +kernel
theorem dX5_init_34 : decode cX5_init 34 = .ok (.dup, 1) := by decide +kernel
theorem dX5_init_35 : decode cX5_init 35 = .ok (.aload_n 0, 1) := by decide +kernel
theorem dX5_init_36 : decode cX5_init 36 = .ok (.getfield 21, 3) := by decide +kernel
theorem dX5_init_39 : decode cX5_init 39 = .ok (.invokespecial 27, 3) := by decide +kernel
theorem dX5_init_42 : decode cX5_init 42 = .ok (.putfield 30, 3) := by decide +kernel
theorem dX5_init_45 : decode cX5_init 45 = .ok (.aload_n 0, 1) := by decide +kernel
theorem dX5_init_46 : decode cX5_init 46 = .ok (.aload_n 0, 1) := by decide +kernel
theorem dX5_init_47 : decode cX5_init 47 = .ok (.getfield 10, 3) := by decide +kernel
theorem dX5_init_50 : decode cX5_init 50 = .ok (.invokevirtual 34, 3) := by decide +kernel
theorem dX5_init_53 : decode cX5_init 53 = .ok (.putfield 38, 3) := by decide +kernel
theorem dX5_init_56 : decode cX5_init 56 = .ok (.return_, 1) := by decide +kernel
set_option maxRecDepth 20000 in
theorem ggX5_size_X5_mustLieWithin : GoodIn wsX5_size wsX5_mustLieWithin := goodIn_ca (goodIn_r _ [6, 7, 8] (by decide +kernel) (by decide +kernel)) (goodIn_sub (fun _ h => List.mem_cons_of_mem _ (List.mem_append_right _ h)) (by decide +kernel))
set_option maxRecDepth 20000 in
theorem gX5_size_X5_mustLieWithin : GoodIn wsX5_size (va_wsS RX5 42 yX5_mustLieWithin wsX5_mustLieWithin) := goodIn_app (goodIn_of _ (by decide +kernel)) ggX5_size_X5_mustLieWithin
set_option maxRecDepth 20000 in
theorem ggX5_size_X3_resize : GoodIn wsX5_size wsX3_resize := goodIn_r _ [13, 14, 15, 16, 17, 32, 33, 34, 35, 36, 37] (by decide +kernel) (by decide +kernel)
set_option maxRecDepth 20000 in
theorem gX5_size_X3_resize : GoodIn wsX5_size (wsV RX5 46 RX3 yX3_resize wsX3_resize) := goodIn_app (goodIn_of _ (by decide +kernel)) ggX5_size_X3_resize
set_option maxRecDepth 20000 in
theorem ggX5_size_X3_firstState : GoodIn wsX5_size wsX3_firstState := goodIn_r _ [21, 17, 22, 23, 24, 25, 26, 27, 32, 33, 34, 35, 36, 37] (by decide +kernel) (by decide +kernel)
set_option maxRecDepth 20000 in
theorem gX5_size_X3_firstState : GoodIn wsX5_size (wsV RX5 34 RX3 yX3_firstState wsX3_firstState) := goodIn_app (goodIn_of _ (by decide +kernel)) ggX5_size_X3_firstState
theorem dX5_size_0 : decode cX5_size 0 = .ok (.iload_n 1, 1) := by decide +kernel
theorem dX5_size_1 : decode cX5_size 1 = .ok (.iconst 1, 1) := by decide +kernel
theorem dX5_size_2 : decode cX5_size 2 = .ok (.iconst 4, 1) := by decide +kernel
theorem dX5_size_3 : decode cX5_size 3 = .ok (.invokestatic 42, 3) := by decide +kernel
theorem dX5_size_6 : decode cX5_size 6 = .ok (.iload_n 2, 1) := by decide +kernel
theorem dX5_size_7 : decode cX5_size 7 = .ok (.iconst 1, 1) := by decide +kernel
theorem dX5_size_8 : decode cX5_size 8 = .ok (.iconst 2, 1) := by decide +kernel
theorem dX5_size_9 : decode cX5_size 9 = .ok (.invokestatic 42, 3) := by decide +kernel
theorem dX5_size_12 : decode cX5_size 12 = .ok (.iload_n 3, 1) := by decide +kernel
theorem dX5_size_13 : decode cX5_size 13 = .ok (.iconst 1, 1) := by decide +kernel
theorem dX5_size_14 : decode cX5_size 14 = .ok (.iconst 3, 1) := by decide +kernel
theorem dX5_size_15 : decode cX5_size 15 = .ok (.invokestatic 42, 3) := by decide +kernel
theorem dX5_size_18 : decode cX5_size 18 = .ok (.aload_n 0, 1) := by decide +kernel
theorem dX5_size_19 : decode cX5_size 19 = .ok (.getfield 10, 3) := by decide +kernel
theorem dX5_size_22 : decode cX5_size 22 = .ok (.iload_n 1, 1) := by decide +kernel
theorem dX5_size_23 : decode cX5_size 23 = .ok (.iload_n 2, 1) := by decide +kernel
theorem dX5_size_24 : decode cX5_size 24 = .ok (.iload_n 3, 1) := by decide +kernel
theorem dX5_size_25 : decode cX5_size 25 = .ok (.invokevirtual 46, 3) := by decide +kernel
theorem dX5_size_28 : decode cX5_size 28 = .ok (.aload_n 0, 1) := by decide +kernel
theorem dX5_size_29 : decode cX5_size 29 = .ok (.aload_n 0, 1) := by decide +kernel
theorem dX5_size_30 : decode cX5_size 30 = .ok (.getfield 10, 3) := by decide +kernel
theorem dX5_size_33 : decode cX5_size 33 = .ok (.invokevirtual 34, 3) := by decide +kernel
theorem dX5_size_36 : decode cX5_size 36 = .ok (.putfield 38, 3) := by decide +kernel
theorem dX5_size_39 : decode cX5_size 39 = .ok (.return_, 1) := by decide +kernel
set_option maxRecDepth 20000 in
theorem ggX5_point_X5_mustLieWithin : GoodIn wsX5_point wsX5_mustLieWithin := goodIn_ca (goodIn_r _ [9, 10, 11] (by decide +kernel) (by decide +kernel)) (goodIn_sub (fun _ h => List.mem_cons_of_mem _ (List.mem_append_right _ h)) (by decide +kernel))
set_option maxRecDepth 20000 in
theorem gX5_point_X5_mustLieWithin : GoodIn wsX5_point (va_wsS RX5 42 yX5_mustLieWithin wsX5_mustLieWithin) := goodIn_app (goodIn_of _ (by decide +kernel)) ggX5_point_X5_mustLieWithin
set_option maxRecDepth 20000 in
theorem ggX5_point_X4_withField : GoodIn wsX5_point wsX4_withField := goodIn_r _ [15, 16, 17, 18, 19, 14, 20] (by decide +kernel) (by decide +kernel)
set_option maxRecDepth 20000 in
theorem gX5_point_X4_withField : GoodIn wsX5_point (va_wsS RX5 59 yX4_withField wsX4_withField) := goodIn_app (goodIn_of _ (by decide +kernel)) ggX5_point_X4_withField
set_option maxRecDepth 20000 in
theorem ggX5_point_X3_firstState : GoodIn wsX5_point wsX3_firstState := goodIn_r _ [25, 26, 27, 28, 29, 14, 30, 31, 36, 37, 38, 39, 40, 41] (by decide +kernel) (by decide +kernel)
set_option maxRecDepth 20000 in
theorem gX5_point_X3_firstState : GoodIn wsX5_point (wsV RX5 34 RX3 yX3_firstState wsX3_firstState) := goodIn_app (goodIn_of _ (by decide +kernel)) ggX5_point_X3_firstState
theorem dX5_point_0 : decode cX5_point 0 = .ok (.iload_n 1, 1) := by decide +kernel
theorem dX5_point_1 : decode cX5_point 1 = .ok (.iconst 0, 1) := by decide +kernel
theorem dX5_point_2 : decode cX5_point 2 = .ok (.aload_n 0, 1) := by decide +kernel
theorem dX5_point_3 : decode cX5_point 3 = .ok (.getfield 10, 3) := by decide +kernel
theorem dX5_point_6 : decode cX5_point 6 = .ok (.getfield 49, 3) := by decide +kernel
theorem dX5_point_9 : decode cX5_point 9 = .ok (.iconst 1, 1) := by decide +kernel
theorem dX5_point_10 : decode cX5_point 10 = .ok (.isub, 1) := by decide +kernel
theorem dX5_point_11 : decode cX5_point 11 = .ok (.invokestatic 42, 3) := by decide +kernel
theorem dX5_point_14 : decode cX5_point 14 = .ok (.iload_n 2, 1) := by decide +kernel
theorem dX5_point_15 : decode cX5_point 15 = .ok (.iconst 0, 1) := by decide +kernel
theorem dX5_point_16 : decode cX5_point 16 = .ok (.aload_n 0, 1) := by decide +kernel
theorem dX5_point_17 : decode cX5_point 17 = .ok (.getfield 10, 3) := by decide +kernel
theorem dX5_point_20 : decode cX5_point 20 = .ok (.getfield 53, 3) := by decide +kernel
theorem dX5_point_23 : decode cX5_point 23 = .ok (.iconst 1, 1) := by decide +kernel
theorem dX5_point_24 : decode cX5_point 24 = .ok (.isub, 1) := by decide +kernel
theorem dX5_point_25 : decode cX5_point 25 = .ok (.invokestatic 42, 3) := by decide +kernel
theorem dX5_point_28 : decode cX5_point 28 = .ok (.iload_n 3, 1) := by decide +kernel
theorem dX5_point_29 : decode cX5_point 29 = .ok (.iconst (-1), 1) := by decide +kernel
theorem dX5_point_30 : decode cX5_point 30 = .ok (.aload_n 0, 1) := by decide +kernel
theorem dX5_point_31 : decode cX5_point 31 = .ok (.getfield 10, 3) := by decide +kernel
theorem dX5_point_34 : decode cX5_point 34 = .ok (.getfield 49, 3) := by decide +kernel
theorem dX5_point_37 : decode cX5_point 37 = .ok (.iconst 1, 1) := by decide +kernel
theorem dX5_point_38 : decode cX5_point 38 = .ok (.isub, 1) := by decide +kernel
theorem dX5_point_39 : decode cX5_point 39 = .ok (.invokestatic 42, 3) := by decide +kernel
theorem dX5_point_42 : decode cX5_point 42 = .ok (.aload_n 0, 1) := by decide +kernel
theorem dX5_point_43 : decode cX5_point 43 = .ok (.getfield 10, 3) := by decide +kernel
theorem dX5_point_46 : decode cX5_point 46 = .ok (.aload_n 0, 1) := by decide +kernel
theorem dX5_point_47 : decode cX5_point 47 = .ok (.getfield 10, 3) := by decide +kernel
theorem dX5_point_50 : decode cX5_point 50 = .ok (.getfield 56, 3) := by decide +kernel
theorem dX5_point_53 : decode cX5_point 53 = .ok (.iload_n 1, 1) := by decide +kernel
theorem dX5_point_54 : decode cX5_point 54 = .ok (.iload_n 2, 1) := by decide +kernel
theorem dX5_point_55 : decode cX5_point 55 = .ok (.iload_n 3, 1) := by decide +kernel
theorem dX5_point_56 : decode cX5_point 56 = .ok (.invokestatic 59, 3) := by decide +kernel
theorem dX5_point_59 : decode cX5_point 59 = .ok (.putfield 56, 3) := by decide +kernel
theorem dX5_point_62 : decode cX5_point 62 = .ok (.aload_n 0, 1) := by decide +kernel
theorem dX5_point_63 : decode cX5_point 63 = .ok (.aload_n 0, 1) := by decide +kernel
theorem dX5_point_64 : decode cX5_point 64 = .ok (.getfield 10, 3) := by decide +kernel
theorem dX5_point_67 : decode cX5_point 67 = .ok (.invokevirtual 34, 3) := by decide +kernel
theorem dX5_point_70 : decode cX5_point 70 = .ok (.putfield 38, 3) := by decide +kernel
theorem dX5_point_73 : decode cX5_point 73 = .ok (.return_, 1) := by decide +kernel
set_option maxRecDepth 20000 in
theorem ggX5_root_X5_mustLieWithin : GoodIn wsX5_root wsX5_mustLieWithin := goodIn_ca (goodIn_r _ [9, 10, 11] (by decide +kernel) (by decide +kernel)) (goodIn_sub (fun _ h => List.mem_cons_of_mem _ (List.mem_append_right _ h)) (by decide +kernel))
set_option maxRecDepth 20000 in
theorem gX5_root_X5_mustLieWithin : GoodIn wsX5_root (va_wsS RX5 42 yX5_mustLieWithin wsX5_mustLieWithin) := goodIn_app (goodIn_of _ (by decide +kernel)) ggX5_root_X5_mustLieWithin
set_option maxRecDepth 20000 in
theorem ggX5_root_X4_withRoot : GoodIn wsX5_root wsX4_withRoot := goodIn_r _ [15, 16, 17, 18, 19, 14, 20] (by decide +kernel) (by decide +kernel)
set_option maxRecDepth 20000 in
theorem gX5_root_X4_withRoot : GoodIn wsX5_root (va_wsS RX5 68 yX4_withRoot wsX4_withRoot) := goodIn_app (goodIn_of _ (by decide +kernel)) ggX5_root_X4_withRoot
set_option maxRecDepth 20000 in
theorem ggX5_root_X3_firstState : GoodIn wsX5_root wsX3_firstState := goodIn_r _ [25, 26, 27, 28, 29, 14, 30, 31, 36, 37, 38, 39, 40, 41] (by decide +kernel) (by decide +kernel)
set_option maxRecDepth 20000 in
theorem gX5_root_X3_firstState : GoodIn wsX5_root (wsV RX5 34 RX3 yX3_firstState wsX3_firstState) := goodIn_app (goodIn_of _ (by decide +kernel)) ggX5_root_X3_firstState
theorem dX5_root_0 : decode cX5_root 0 = .ok (.iload_n 1, 1) := by decide +kernel
theorem dX5_root_1 : decode cX5_root 1 = .ok (.iconst 0, 1) := by decide +kernel
theorem dX5_root_2 : decode cX5_root 2 = .ok (.aload_n 0, 1) := by decide +kernel
theorem dX5_root_3 : decode cX5_root 3 = .ok (.getfield 10, 3) := by decide +kernel
theorem dX5_root_6 : decode cX5_root 6 = .ok (.getfield 65, 3) := by decide +kernel
theorem dX5_root_9 : decode cX5_root 9 = .ok (.iconst 1, 1) := by decide +kernel
theorem dX5_root_10 : decode cX5_root 10 = .ok (.isub, 1) := by decide +kernel
theorem dX5_root_11 : decode cX5_root 11 = .ok (.invokestatic 42, 3) := by decide +kernel
theorem dX5_root_14 : decode cX5_root 14 = .ok (.iload_n 2, 1) := by decide +kernel
theorem dX5_root_15 : decode cX5_root 15 = .ok (.iconst (-1), 1) := by decide +kernel
theorem dX5_root_16 : decode cX5_root 16 = .ok (.aload_n 0, 1) := by decide +kernel
theorem dX5_root_17 : decode cX5_root 17 = .ok (.getfield 10, 3) := by decide +kernel
theorem dX5_root_20 : decode cX5_root 20 = .ok (.getfield 49, 3) := by decide +kernel
theorem dX5_root_23 : decode cX5_root 23 = .ok (.iconst 1, 1) := by decide +kernel
theorem dX5_root_24 : decode cX5_root 24 = .ok (.isub, 1) := by decide +kernel
theorem dX5_root_25 : decode cX5_root 25 = .ok (.invokestatic 42, 3) := by decide +kernel
theorem dX5_root_28 : decode cX5_root 28 = .ok (.aload_n 0, 1) := by decide +kernel
theorem dX5_root_29 : decode cX5_root 29 = .ok (.getfield 10, 3) := by decide +kernel
theorem dX5_root_32 : decode cX5_root 32 = .ok (.aload_n 0, 1) := by decide +kernel
theorem dX5_root_33 : decode cX5_root 33 = .ok (.getfield 10, 3) := by decide +kernel
theorem dX5_root_36 : decode cX5_root 36 = .ok (.getfield 56, 3) := by decide +kernel
theorem dX5_root_39 : decode cX5_root 39 = .ok (.iload_n 1, 1) := by decide +kernel
theorem dX5_root_40 : decode cX5_root 40 = .ok (.iload_n 2, 1) := by decide +kernel
theorem dX5_root_41 : decode cX5_root 41 = .ok (.invokestatic 68, 3) := by decide +kernel
theorem dX5_root_44 : decode cX5_root 44 = .ok (.putfield 56, 3) := by decide +kernel
theorem dX5_root_47 : decode cX5_root 47 = .ok (.aload_n 0, 1) := by decide +kernel
theorem dX5_root_48 : decode cX5_root 48 = .ok (.aload_n 0, 1) := by decide +kernel
theorem dX5_root_49 : decode cX5_root 49 = .ok (.getfield 10, 3) := by decide +kernel
theorem dX5_root_52 : decode cX5_root 52 = .ok (.invokevirtual 34, 3) := by decide +kernel
theorem dX5_root_55 : decode cX5_root 55 = .ok (.putfield 38, 3) := by decide +kernel
theorem dX5_root_58 : decode cX5_root 58 = .ok (.return_, 1) := by decide +kernel
set_option maxRecDepth 20000 in
theorem ggX5_rules_X5_mustLieWithin : GoodIn wsX5_rules wsX5_mustLieWithin := goodIn_ca (goodIn_r _ [8, 9, 10] (by decide +kernel) (by decide +kernel)) (goodIn_sub (fun _ h => List.mem_cons_of_mem _ (List.mem_append_right _ h)) (by decide +kernel))
set_option maxRecDepth 20000 in
theorem gX5_rules_X5_mustLieWithin : GoodIn wsX5_rules (va_wsS RX5 42 yX5_mustLieWithin wsX5_mustLieWithin) := goodIn_app (goodIn_of _ (by decide +kernel)) ggX5_rules_X5_mustLieWithin
set_option maxRecDepth 20000 in
theorem ggX5_rules_X3_firstState : GoodIn wsX5_rules wsX3_firstState := goodIn_r _ [15, 16, 17, 18, 19, 20, 21, 22, 27, 28, 29, 30, 31, 32] (by decide +kernel) (by decide +kernel)
set_option maxRecDepth 20000 in
theorem gX5_rules_X3_firstState : GoodIn wsX5_rules (wsV RX5 34 RX3 yX3_firstState wsX3_firstState) := goodIn_app (goodIn_of _ (by decide +kernel)) ggX5_rules_X3_firstState
theorem dX5_rules_0 : decode cX5_rules 0 = .ok (.iload_n 1, 1) := by decide +kernel
theorem dX5_rules_1 : decode cX5_rules 1 = .ok (.iconst 0, 1) := by decide +kernel
theorem dX5_rules_2 : decode cX5_rules 2 = .ok (.bipush 127, 2) := by decide +kernel
theorem dX5_rules_4 : decode cX5_rules 4 = .ok (.invokestatic 42, 3) := by decide +kernel
theorem dX5_rules_7 : decode cX5_rules 7 = .ok (.iload_n 2, 1) := by decide +kernel
theorem dX5_rules_8 : decode cX5_rules 8 = .ok (.iconst 0, 1) := by decide +kernel
theorem dX5_rules_9 : decode cX5_rules 9 = .ok (.bipush 8, 2) := by decide +kernel
theorem dX5_rules_11 : decode cX5_rules 11 = .ok (.invokestatic 42, 3) := by decide +kernel
theorem dX5_rules_14 : decode cX5_rules 14 = .ok (.aload_n 0, 1) := by decide +kernel
theorem dX5_rules_15 : decode cX5_rules 15 = .ok (.getfield 10, 3) := by decide +kernel
theorem dX5_rules_18 : decode cX5_rules 18 = .ok (.iload_n 1, 1) := by decide +kernel
theorem dX5_rules_19 : decode cX5_rules 19 = .ok (.putfield 72, 3) := by decide +kernel
theorem dX5_rules_22 : decode cX5_rules 22 = .ok (.aload_n 0, 1) := by decide +kernel
theorem dX5_rules_23 : decode cX5_rules 23 = .ok (.getfield 10, 3) := by decide +kernel
theorem dX5_rules_26 : decode cX5_rules 26 = .ok (.iload_n 2, 1) := by decide +kernel
theorem dX5_rules_27 : decode cX5_rules 27 = .ok (.putfield 75, 3) := by decide +kernel
theorem dX5_rules_30 : decode cX5_rules 30 = .ok (.aload_n 0, 1) := by decide +kernel
theorem dX5_rules_31 : decode cX5_rules 31 = .ok (.aload_n 0, 1) := by decide +kernel
theorem dX5_rules_32 : decode cX5_rules 32 = .ok (.getfield 10, 3) := by decide +kernel
theorem dX5_rules_35 : decode cX5_rules 35 = .ok (.invokevirtual 34, 3) := by decide +kernel
theorem dX5_rules_38 : decode cX5_rules 38 = .ok (.putfield 38, 3) := by decide +kernel
theorem dX5_rules_41 : decode cX5_rules 41 = .ok (.return_, 1) := by decide +kernel
set_option maxRecDepth 20000 in
theorem ggX5_find_X5_mustLieWithin : GoodIn wsX5_find wsX5_mustLieWithin := goodIn_ca (goodIn_r _ [6, 7, 8] (by decide +kernel) (by decide +kernel)) (goodIn_sub (fun _ h => List.mem_cons_of_mem _ (List.mem_append_right _ h)) (by decide +kernel))
set_option maxRecDepth 20000 in
theorem gX5_find_X5_mustLieWithin : GoodIn wsX5_find (va_wsS RX5 42 yX5_mustLieWithin wsX5_mustLieWithin) := goodIn_app (goodIn_of _ (by decide +kernel)) ggX5_find_X5_mustLieWithin
set_option maxRecDepth 20000 in
theorem ggX5_find_X3_firstState : GoodIn wsX5_find wsX3_firstState := goodIn_r _ [13, 14, 15, 16, 17, 18, 19, 20, 204, 205, 206, 207, 208, 209] (by decide +kernel) (by decide +kernel)
set_option maxRecDepth 20000 in
theorem gX5_find_X3_firstState : GoodIn wsX5_find (wsV RX5 34 RX3 yX3_firstState wsX3_firstState) := goodIn_app (goodIn_of _ (by decide +kernel)) ggX5_find_X3_firstState
set_option maxRecDepth 20000 in
theorem ggX5_find_X2_shortestRow : GoodIn wsX5_find wsX2_shortestRow := goodIn_r _ [25, 26, 27, 28, 29, 30, 31, 32, 33, 34, 35, 24, 36, 37, 38, 39, 40, 41, 42, 43, 44, 45, 46, 47, 48, 49, 50, 51, 52, 53, 54, 55, 56, 57, 18, 58, 59, 60, 61, 62, 63, 64, 65, 66, 67, 68, 69, 70, 71, 72, 73, 74, 75, 76, 77, 78, 79, 80, 81, 82, 83, 84, 85, 86, 87, 88, 89, 90, 91, 92, 93, 94, 95, 96, 97, 98, 99, 100, 101, 102, 103, 104, 105, 106, 107, 108, 109, 110, 111, 112, 113, 114, 115, 116, 117, 118, 12, 119, 120, 121, 122, 123, 124, 125, 17, 19, 20, 126, 127, 128, 129, 130, 131, 132, 133, 134, 135, 136, 137, 138, 139, 140, 141, 142, 143, 144, 145, 146, 147, 148, 149, 150, 151, 152, 153, 154, 155, 156, 157, 158, 159, 160, 161, 162, 163, 164, 165, 166, 167, 168, 169, 170, 171, 172, 173, 174, 175, 176, 177, 178, 179, 180, 181, 182, 183, 184, 185, 186, 187, 188, 189, 190, 191, 192, 193, 194, 195, 196, 197, 198, 199, 210, 211, 212, 213, 214, 215, 216, 217, 204, 205, 206, 207, 208, 209] (by decide +kernel) (by decide +kernel)
set_option maxRecDepth 20000 in
theorem gX5_find_X2_shortestRow : GoodIn wsX5_find (wsV RX5 78 RX2 yX2_shortestRow wsX2_shortestRow) := goodIn_app (goodIn_of _ (by decide +kernel)) ggX5_find_X2_shortestRow
theorem dX5_find_0 : decode cX5_find 0 = .ok (.iload_n 1, 1) := by decide +kernel
theorem dX5_find_1 : decode cX5_find 1 = .ok (.iconst 0, 1) := by decide +kernel
theorem dX5_find_2 : decode cX5_find 2 = .ok (.iconst 3, 1) := by decide +kernel
theorem dX5_find_3 : decode cX5_find 3 = .ok (.invokestatic 42, 3) := by decide +kernel
theorem dX5_find_6 : decode cX5_find 6 = .ok (.aload_n 0, 1) := by decide +kernel
theorem dX5_find_7 : decode cX5_find 7 = .ok (.getfield 30, 3) := by decide +kernel
theorem dX5_find_10 : decode cX5_find 10 = .ok (.aload_n 0, 1) := by decide +kernel
theorem dX5_find_11 : decode cX5_find 11 = .ok (.getfield 10, 3) := by decide +kernel
theorem dX5_find_14 : decode cX5_find 14 = .ok (.invokevirtual 34, 3) := by decide +kernel
theorem dX5_find_17 : decode cX5_find 17 = .ok (.iload_n 1, 1) := by decide +kernel
theorem dX5_find_18 : decode cX5_find 18 = .ok (.invokevirtual 78, 3) := by decide +kernel
theorem dX5_find_21 : decode cX5_find 21 = .ok (.ireturn, 1) := by decide +kernel
theorem dX5_act_0 : decode cX5_act 0 = .ok (.iload_n 1, 1) := by decide +kernel
theorem dX5_act_1 : decode cX5_act 1 = .ok (.ifCond .lt 14, 3) := by decide +kernel
theorem dX5_act_4 : decode cX5_act 4 = .ok (.iload_n 1, 1) := by decide +kernel
theorem dX5_act_5 : decode cX5_act 5 = .ok (.aload_n 0, 1) := by decide +kernel
theorem dX5_act_6 : decode cX5_act 6 = .ok (.getfield 30, 3) := by decide +kernel
theorem dX5_act_9 : decode cX5_act 9 = .ok (.getfield 82, 3) := by decide +kernel
theorem dX5_act_12 : decode cX5_act 12 = .ok (.if_icmp .lt 13, 3) := by decide +kernel
theorem dX5_act_15 : decode cX5_act 15 = .ok (.new 85, 3) := by decide +kernel
theorem dX5_act_18 : decode cX5_act 18 = .ok (.dup, 1) := by decide +kernel
theorem dX5_act_19 : decode cX5_act 19 = .ok (.ldc 87, 2) := by decide +kernel
theorem dX5_act_21 : decode cX5_act 21 = .ok (.invokespecial 89, 3) := by decide +kernel
theorem dX5_act_24 : decode cX5_act 24 = .ok (.athrow, 1) := by decide +kernel
theorem dX5_act_25 : decode cX5_act 25 = .ok (.aload_n 0, 1) := by decide +kernel
theorem dX5_act_26 : decode cX5_act 26 = .ok (.getfield 30, 3) := by decide +kernel
theorem dX5_act_29 : decode cX5_act 29 = .ok (.getfield 92, 3) := by decide +kernel
theorem dX5_act_32 : decode cX5_act 32 = .ok (.iload_n 1, 1) := by decide +kernel
theorem dX5_act_33 : decode cX5_act 33 = .ok (.iaload, 1) := by decide +kernel
theorem dX5_act_34 : decode cX5_act 34 = .ok (.ireturn, 1) := by decide +kernel
set_option maxRecDepth 20000 in
theorem ggX5_play_X5_mustLieWithin : GoodIn wsX5_play wsX5_mustLieWithin := goodIn_ca (goodIn_r _ [9, 10, 11] (by decide +kernel) (by decide +kernel)) (goodIn_sub (fun _ h => List.mem_cons_of_mem _ (List.mem_append_right _ h)) (by decide +kernel))
set_option maxRecDepth 20000 in
theorem gX5_play_X5_mustLieWithin : GoodIn wsX5_play (va_wsS RX5 42 yX5_mustLieWithin wsX5_mustLieWithin) := goodIn_app (goodIn_of _ (by decide +kernel)) ggX5_play_X5_mustLieWithin
set_option maxRecDepth 20000 in
theorem ggX5_play_X1_behind : GoodIn wsX5_play wsX1_behind := goodIn_r _ [16, 17, 18, 19, 20, 21, 22, 23, 24, 15, 25, 26, 27, 28, 29, 30, 31, 32, 33, 34, 35, 36, 37, 38, 39, 40, 41, 42, 43, 44, 45, 46, 47, 48, 49, 50, 51, 52, 53, 54, 55, 56, 57, 58, 59, 60, 61, 62, 63, 64, 65, 66, 67, 68, 69, 70, 71, 72, 73, 74, 75, 76, 77, 78, 79, 80, 81, 82, 83, 84, 85, 86, 87, 88, 89, 90, 91, 92, 93, 94, 95, 96, 97, 98, 99, 100, 101, 102, 103, 104, 105, 106, 107, 108, 109, 110, 111, 112, 113, 114, 115, 116, 117, 118, 119, 120, 121, 122, 123, 124, 138, 139, 140, 141, 142, 143, 144] (by decide +kernel) (by decide +kernel)
set_option maxRecDepth 20000 in
theorem gX5_play_X1_behind : GoodIn wsX5_play (wsV RX5 96 RX1 yX1_behind wsX1_behind) := goodIn_app (goodIn_of _ (by decide +kernel)) ggX5_play_X1_behind
set_option maxRecDepth 20000 in
theorem ggX5_play_X1_possibleActs : GoodIn wsX5_play wsX1_possibleActs := goodIn_r _ [128, 17, 129, 130, 131, 15, 132, 81, 82, 20, 83, 18, 19, 21, 133, 13, 14, 16, 22, 23, 24, 25, 26, 27, 28, 29, 30, 31, 32, 33, 34, 35, 36, 37, 38, 39, 40, 41, 42, 43, 44, 45, 46, 47, 48, 49, 50, 51, 52, 53, 54, 55, 56, 57, 58, 59, 60, 61, 62, 63, 64, 65, 66, 67, 68, 69, 70, 71, 72, 73, 74, 75, 76, 77, 78, 79, 80, 84, 85, 86, 87, 88, 89, 90, 91, 92, 93, 94, 95, 96, 97, 98, 99, 100, 101, 102, 103, 104, 105, 106, 107, 108, 109, 110, 111, 112, 113, 114, 115, 116, 117, 118, 119, 120, 121, 122, 123, 124, 138, 139, 140, 141, 142, 143, 144] (by decide +kernel) (by decide +kernel)
set_option maxRecDepth 20000 in
theorem gX5_play_X1_possibleActs : GoodIn wsX5_play (wsV RX5 107 RX1 yX1_possibleActs wsX1_possibleActs) := goodIn_app (goodIn_of _ (by decide +kernel)) ggX5_play_X1_possibleActs
theorem dX5_play_0 : decode cX5_play 0 = .ok (.iload_n 1, 1) := by decide +kernel
theorem dX5_play_1 : decode cX5_play 1 = .ok (.iconst 0, 1) := by decide +kernel
theorem dX5_play_2 : decode cX5_play 2 = .ok (.bipush 49, 2) := by decide +kernel
theorem dX5_play_4 : decode cX5_play 4 = .ok (.invokestatic 42, 3) := by decide +kernel
theorem dX5_play_7 : decode cX5_play 7 = .ok (.aload_n 0, 1) := by decide +kernel
theorem dX5_play_8 : decode cX5_play 8 = .ok (.getfield 21, 3) := by decide +kernel
theorem dX5_play_11 : decode cX5_play 11 = .ok (.aload_n 0, 1) := by decide +kernel
theorem dX5_play_12 : decode cX5_play 12 = .ok (.getfield 38, 3) := by decide +kernel
theorem dX5_play_15 : decode cX5_play 15 = .ok (.iload_n 1, 1) := by decide +kernel
theorem dX5_play_16 : decode cX5_play 16 = .ok (.invokevirtual 96, 3) := by decide +kernel
theorem dX5_play_19 : decode cX5_play 19 = .ok (.lstore_n 2, 1) := by decide +kernel
theorem dX5_play_20 : decode cX5_play 20 = .ok (.lload_n 2, 1) := by decide +kernel
theorem dX5_play_21 : decode cX5_play 21 = .ok (.ldc2_w 100, 3) := by decide +kernel
theorem dX5_play_24 : decode cX5_play 24 = .ok (.lcmp, 1) := by decide +kernel
theorem dX5_play_25 : decode cX5_play 25 = .ok (.ifCond .ne 13, 3) := by decide +kernel
theorem dX5_play_28 : decode cX5_play 28 = .ok (.new 102, 3) := by decide +kernel
theorem dX5_play_31 : decode cX5_play 31 = .ok (.dup, 1) := by decide +kernel
theorem dX5_play_32 : decode cX5_play 32 = .ok (.ldc 104, 2) := by decide +kernel
theorem dX5_play_34 : decode cX5_play 34 = .ok (.invokespecial 106, 3) := by decide +kernel
theorem dX5_play_37 : decode cX5_play 37 = .ok (.athrow, 1) := by decide +kernel
theorem dX5_play_38 : decode cX5_play 38 = .ok (.aload_n 0, 1) := by decide +kernel
theorem dX5_play_39 : decode cX5_play 39 = .ok (.lload_n 2, 1) := by decide +kernel
theorem dX5_play_40 : decode cX5_play 40 = .ok (.putfield 38, 3) := by decide +kernel
theorem dX5_play_43 : decode cX5_play 43 = .ok (.aload_n 0, 1) := by decide +kernel
theorem dX5_play_44 : decode cX5_play 44 = .ok (.getfield 21, 3) := by decide +kernel
theorem dX5_play_47 : decode cX5_play 47 = .ok (.aload_n 0, 1) := by decide +kernel
theorem dX5_play_48 : decode cX5_play 48 = .ok (.getfield 38, 3) := by decide +kernel
theorem dX5_play_51 : decode cX5_play 51 = .ok (.invokevirtual 107, 3) := by decide +kernel
theorem dX5_play_54 : decode cX5_play 54 = .ok (.ireturn, 1) := by decide +kernel
set_option maxRecDepth 20000 in
theorem ggX5_again_X3_firstState : GoodIn wsX5_again wsX3_firstState := goodIn_r _ [8, 9, 10, 11, 12, 13, 14, 15, 136, 137, 138, 139, 140, 141] (by decide +kernel) (by decide +kernel)
set_option maxRecDepth 20000 in
theorem gX5_again_X3_firstState : GoodIn wsX5_again (wsV RX5 34 RX3 yX3_firstState wsX3_firstState) := goodIn_app (goodIn_of _ (by decide +kernel)) ggX5_again_X3_firstState
set_option maxRecDepth 20000 in
theorem ggX5_again_X1_possibleActs : GoodIn wsX5_again wsX1_possibleActs := goodIn_r _ [20, 21, 22, 23, 24, 19, 25, 26, 27, 13, 28, 29, 30, 31, 32, 33, 34, 35, 36, 37, 38, 39, 40, 41, 42, 43, 44, 45, 46, 47, 48, 49, 50, 51, 52, 53, 54, 55, 56, 57, 58, 59, 60, 61, 62, 63, 64, 65, 66, 67, 68, 69, 70, 71, 72, 73, 74, 75, 76, 77, 78, 79, 80, 81, 82, 83, 84, 85, 86, 87, 7, 88, 89, 90, 91, 92, 93, 94, 12, 14, 15, 95, 96, 97, 98, 99, 100, 101, 102, 103, 104, 105, 106, 107, 108, 109, 110, 111, 112, 113, 114, 115, 116, 117, 118, 119, 120, 121, 122, 123, 124, 125, 126, 127, 128, 129, 130, 131, 142, 136, 137, 138, 139, 140, 141] (by decide +kernel) (by decide +kernel)
set_option maxRecDepth 20000 in
theorem gX5_again_X1_possibleActs : GoodIn wsX5_again (wsV RX5 107 RX1 yX1_possibleActs wsX1_possibleActs) := goodIn_app (goodIn_of _ (by decide +kernel)) ggX5_again_X1_possibleActs
theorem dX5_again_0 : decode cX5_again 0 = .ok (.aload_n 0, 1) := by decide +kernel
theorem dX5_again_1 : decode cX5_again 1 = .ok (.aload_n 0, 1) := by decide +kernel
theorem dX5_again_2 : decode cX5_again 2 = .ok (.getfield 10, 3) := by decide +kernel
theorem dX5_again_5 : decode cX5_again 5 = .ok (.invokevirtual 34, 3) := by decide +kernel
theorem dX5_again_8 : decode cX5_again 8 = .ok (.putfield 38, 3) := by decide +kernel
theorem dX5_again_11 : decode cX5_again 11 = .ok (.aload_n 0, 1) := by decide +kernel
theorem dX5_again_12 : decode cX5_again 12 = .ok (.getfield 21, 3) := by decide +kernel
theorem dX5_again_15 : decode cX5_again 15 = .ok (.aload_n 0, 1) := by decide +kernel
theorem dX5_again_16 : decode cX5_again 16 = .ok (.getfield 38, 3) := by decide +kernel
theorem dX5_again_19 : decode cX5_again 19 = .ok (.invokevirtual 107, 3) := by decide +kernel
theorem dX5_again_22 : decode cX5_again 22 = .ok (.ireturn, 1) := by decide +kernel
set_option maxRecDepth 20000 in
theorem ggX5_broken_X5_mustLieWithin : GoodIn wsX5_broken wsX5_mustLieWithin := goodIn_ca (goodIn_r _ [5, 6, 7] (by decide +kernel) (by decide +kernel)) (goodIn_sub (fun _ h => List.mem_cons_of_mem _ (List.mem_append_right _ h)) (by decide +kernel))
set_option maxRecDepth 20000 in
theorem gX5_broken_X5_mustLieWithin : GoodIn wsX5_broken (va_wsS RX5 42 yX5_mustLieWithin wsX5_mustLieWithin) := goodIn_app (goodIn_of _ (by decide +kernel)) ggX5_broken_X5_mustLieWithin
set_option maxRecDepth 20000 in
theorem ggX5_broken_X0_isBroken : GoodIn wsX5_broken wsX0_isBroken := goodIn_r _ [11, 12, 13, 14, 15, 16, 17, 10, 18, 19, 20, 21, 22, 23, 24, 25, 26, 27, 28, 29, 30, 31, 32, 33, 34, 35, 36, 37, 38, 39, 40, 41, 42, 43, 44] (by decide +kernel) (by decide +kernel)
set_option maxRecDepth 20000 in
theorem gX5_broken_X0_isBroken : GoodIn wsX5_broken (va_wsS RX5 111 yX0_isBroken wsX0_isBroken) := goodIn_app (goodIn_of _ (by decide +kernel)) ggX5_broken_X0_isBroken
theorem dX5_broken_0 : decode cX5_broken 0 = .ok (.iload_n 1, 1) := by decide +kernel
theorem dX5_broken_1 : decode cX5_broken 1 = .ok (.iconst 0, 1) := by decide +kernel
theorem dX5_broken_2 : decode cX5_broken 2 = .ok (.iconst 3, 1) := by decide +kernel
theorem dX5_broken_3 : decode cX5_broken 3 = .ok (.invokestatic 42, 3) := by decide +kernel
theorem dX5_broken_6 : decode cX5_broken 6 = .ok (.aload_n 0, 1) := by decide +kernel
theorem dX5_broken_7 : decode cX5_broken 7 = .ok (.getfield 38, 3) := by decide +kernel
theorem dX5_broken_10 : decode cX5_broken 10 = .ok (.iload_n 1, 1) := by decide +kernel
theorem dX5_broken_11 : decode cX5_broken 11 = .ok (.invokestatic 111, 3) := by decide +kernel
theorem dX5_broken_14 : decode cX5_broken 14 = .ok (.ireturn, 1) := by decide +kernel
set_option maxRecDepth 20000 in
theorem ggX5_colour_X5_mustLieWithin : GoodIn wsX5_colour wsX5_mustLieWithin := goodIn_ca (goodIn_r _ [7, 8, 9] (by decide +kernel) (by decide +kernel)) (goodIn_sub (fun _ h => List.mem_cons_of_mem _ (List.mem_append_right _ h)) (by decide +kernel))
set_option maxRecDepth 20000 in
theorem gX5_colour_X5_mustLieWithin : GoodIn wsX5_colour (va_wsS RX5 42 yX5_mustLieWithin wsX5_mustLieWithin) := goodIn_app (goodIn_of _ (by decide +kernel)) ggX5_colour_X5_mustLieWithin
set_option maxRecDepth 20000 in
theorem ggX5_colour_X4_isBlack : GoodIn wsX5_colour wsX4_isBlack := goodIn_r _ [13] (by decide +kernel) (by decide +kernel)
set_option maxRecDepth 20000 in
theorem gX5_colour_X4_isBlack : GoodIn wsX5_colour (va_wsS RX5 117 yX4_isBlack wsX4_isBlack) := goodIn_app (goodIn_of _ (by decide +kernel)) ggX5_colour_X4_isBlack
set_option maxRecDepth 20000 in
theorem ggX5_colour_X4_isWhite : GoodIn wsX5_colour wsX4_isWhite := goodIn_r _ [16, 17, 18, 12, 19] (by decide +kernel) (by decide +kernel)
set_option maxRecDepth 20000 in
theorem gX5_colour_X4_isWhite : GoodIn wsX5_colour (va_wsS RX5 120 yX4_isWhite wsX4_isWhite) := goodIn_app (goodIn_of _ (by decide +kernel)) ggX5_colour_X4_isWhite
theorem dX5_colour_0 : decode cX5_colour 0 = .ok (.iload_n 1, 1) := by decide +kernel
theorem dX5_colour_1 : decode cX5_colour 1 = .ok (.iconst 0, 1) := by decide +kernel
theorem dX5_colour_2 : decode cX5_colour 2 = .ok (.aload_n 0, 1) := by decide +kernel
theorem dX5_colour_3 : decode cX5_colour 3 = .ok (.getfield 10, 3) := by decide +kernel
theorem dX5_colour_6 : decode cX5_colour 6 = .ok (.getfield 49, 3) := by decide +kernel
theorem dX5_colour_9 : decode cX5_colour 9 = .ok (.iconst 1, 1) := by decide +kernel
theorem dX5_colour_10 : decode cX5_colour 10 = .ok (.isub, 1) := by decide +kernel
theorem dX5_colour_11 : decode cX5_colour 11 = .ok (.invokestatic 42, 3) := by decide +kernel
theorem dX5_colour_14 : decode cX5_colour 14 = .ok (.aload_n 0, 1) := by decide +kernel
theorem dX5_colour_15 : decode cX5_colour 15 = .ok (.getfield 38, 3) := by decide +kernel
theorem dX5_colour_18 : decode cX5_colour 18 = .ok (.iload_n 1, 1) := by decide +kernel
theorem dX5_colour_19 : decode cX5_colour 19 = .ok (.invokestatic 117, 3) := by decide +kernel
theorem dX5_colour_22 : decode cX5_colour 22 = .ok (.ifCond .eq 5, 3) := by decide +kernel
theorem dX5_colour_25 : decode cX5_colour 25 = .ok (.iconst 2, 1) := by decide +kernel
theorem dX5_colour_26 : decode cX5_colour 26 = .ok (.ireturn, 1) := by decide +kernel
theorem dX5_colour_27 : decode cX5_colour 27 = .ok (.aload_n 0, 1) := by decide +kernel
theorem dX5_colour_28 : decode cX5_colour 28 = .ok (.getfield 38, 3) := by decide +kernel
theorem dX5_colour_31 : decode cX5_colour 31 = .ok (.iload_n 1, 1) := by decide +kernel
theorem dX5_colour_32 : decode cX5_colour 32 = .ok (.invokestatic 120, 3) := by decide +kernel
theorem dX5_colour_35 : decode cX5_colour 35 = .ok (.ifCond .eq 7, 3) := by decide +kernel
theorem dX5_colour_38 : decode cX5_colour 38 = .ok (.iconst 0, 1) := by decide +kernel
theorem dX5_colour_39 : decode cX5_colour 39 = .ok (.goto 4, 3) := by decide +kernel
theorem dX5_colour_42 : decode cX5_colour 42 = .ok (.iconst 1, 1) := by decide +kernel
theorem dX5_colour_43 : decode cX5_colour 43 = .ok (.ireturn, 1) := by decide +kernel
set_option maxRecDepth 20000 in
theorem ggX5_field_X5_mustLieWithin : GoodIn wsX5_field wsX5_mustLieWithin := goodIn_ca (goodIn_r _ [8, 9, 10] (by decide +kernel) (by decide +kernel)) (goodIn_sub (fun _ h => List.mem_cons_of_mem _ (List.mem_append_right _ h)) (by decide +kernel))
set_option maxRecDepth 20000 in
theorem gX5_field_X5_mustLieWithin : GoodIn wsX5_field (va_wsS RX5 42 yX5_mustLieWithin wsX5_mustLieWithin) := goodIn_app (goodIn_of _ (by decide +kernel)) ggX5_field_X5_mustLieWithin
set_option maxRecDepth 20000 in
theorem ggX5_field_X4_inField : GoodIn wsX5_field wsX4_inField := goodIn_r _ [14, 15, 16, 13, 17] (by decide +kernel) (by decide +kernel)
set_option maxRecDepth 20000 in
theorem gX5_field_X4_inField : GoodIn wsX5_field (va_wsS RX5 123 yX4_inField wsX4_inField) := goodIn_app (goodIn_of _ (by decide +kernel)) ggX5_field_X4_inField
theorem dX5_field_0 : decode cX5_field 0 = .ok (.iload_n 1, 1) := by decide +kernel
theorem dX5_field_1 : decode cX5_field 1 = .ok (.iconst 0, 1) := by decide +kernel
theorem dX5_field_2 : decode cX5_field 2 = .ok (.aload_n 0, 1) := by decide +kernel
theorem dX5_field_3 : decode cX5_field 3 = .ok (.getfield 10, 3) := by decide +kernel
theorem dX5_field_6 : decode cX5_field 6 = .ok (.getfield 49, 3) := by decide +kernel
theorem dX5_field_9 : decode cX5_field 9 = .ok (.iconst 1, 1) := by decide +kernel
theorem dX5_field_10 : decode cX5_field 10 = .ok (.isub, 1) := by decide +kernel
theorem dX5_field_11 : decode cX5_field 11 = .ok (.invokestatic 42, 3) := by decide +kernel
theorem dX5_field_14 : decode cX5_field 14 = .ok (.iload_n 2, 1) := by decide +kernel
theorem dX5_field_15 : decode cX5_field 15 = .ok (.iconst 0, 1) := by decide +kernel
theorem dX5_field_16 : decode cX5_field 16 = .ok (.aload_n 0, 1) := by decide +kernel
theorem dX5_field_17 : decode cX5_field 17 = .ok (.getfield 10, 3) := by decide +kernel
theorem dX5_field_20 : decode cX5_field 20 = .ok (.getfield 53, 3) := by decide +kernel
theorem dX5_field_23 : decode cX5_field 23 = .ok (.iconst 1, 1) := by decide +kernel
theorem dX5_field_24 : decode cX5_field 24 = .ok (.isub, 1) := by decide +kernel
theorem dX5_field_25 : decode cX5_field 25 = .ok (.invokestatic 42, 3) := by decide +kernel
theorem dX5_field_28 : decode cX5_field 28 = .ok (.aload_n 0, 1) := by decide +kernel
theorem dX5_field_29 : decode cX5_field 29 = .ok (.getfield 38, 3) := by decide +kernel
theorem dX5_field_32 : decode cX5_field 32 = .ok (.iload_n 1, 1) := by decide +kernel
theorem dX5_field_33 : decode cX5_field 33 = .ok (.iload_n 2, 1) := by decide +kernel
theorem dX5_field_34 : decode cX5_field 34 = .ok (.invokestatic 123, 3) := by decide +kernel
theorem dX5_field_37 : decode cX5_field 37 = .ok (.ireturn, 1) := by decide +kernel
set_option maxRecDepth 20000 in
theorem ggX5_has_X5_mustLieWithin : GoodIn wsX5_has wsX5_mustLieWithin := goodIn_ca (goodIn_r _ [7, 8, 9] (by decide +kernel) (by decide +kernel)) (goodIn_sub (fun _ h => List.mem_cons_of_mem _ (List.mem_append_right _ h)) (by decide +kernel))
set_option maxRecDepth 20000 in
theorem gX5_has_X5_mustLieWithin : GoodIn wsX5_has (va_wsS RX5 42 yX5_mustLieWithin wsX5_mustLieWithin) := goodIn_app (goodIn_of _ (by decide +kernel)) ggX5_has_X5_mustLieWithin
set_option maxRecDepth 20000 in
theorem ggX5_has_X4_inRoot : GoodIn wsX5_has wsX4_inRoot := goodIn_r _ [13, 14, 15, 12, 16] (by decide +kernel) (by decide +kernel)
set_option maxRecDepth 20000 in
theorem gX5_has_X4_inRoot : GoodIn wsX5_has (va_wsS RX5 127 yX4_inRoot wsX4_inRoot) := goodIn_app (goodIn_of _ (by decide +kernel)) ggX5_has_X4_inRoot
theorem dX5_has_0 : decode cX5_has 0 = .ok (.iload_n 1, 1) := by decide +kernel
theorem dX5_has_1 : decode cX5_has 1 = .ok (.iconst 0, 1) := by decide +kernel
theorem dX5_has_2 : decode cX5_has 2 = .ok (.aload_n 0, 1) := by decide +kernel
theorem dX5_has_3 : decode cX5_has 3 = .ok (.getfield 10, 3) := by decide +kernel
theorem dX5_has_6 : decode cX5_has 6 = .ok (.getfield 65, 3) := by decide +kernel
theorem dX5_has_9 : decode cX5_has 9 = .ok (.iconst 1, 1) := by decide +kernel
theorem dX5_has_10 : decode cX5_has 10 = .ok (.isub, 1) := by decide +kernel
theorem dX5_has_11 : decode cX5_has 11 = .ok (.invokestatic 42, 3) := by decide +kernel
theorem dX5_has_14 : decode cX5_has 14 = .ok (.aload_n 0, 1) := by decide +kernel
theorem dX5_has_15 : decode cX5_has 15 = .ok (.getfield 38, 3) := by decide +kernel
theorem dX5_has_18 : decode cX5_has 18 = .ok (.iload_n 1, 1) := by decide +kernel
theorem dX5_has_19 : decode cX5_has 19 = .ok (.invokestatic 127, 3) := by decide +kernel
theorem dX5_has_22 : decode cX5_has 22 = .ok (.ireturn, 1) := by decide +kernel
set_option maxRecDepth 20000 in
theorem ggX5_count_X5_mustLieWithin : GoodIn wsX5_count wsX5_mustLieWithin := goodIn_ca (goodIn_r _ [14, 15, 16] (by decide +kernel) (by decide +kernel)) (goodIn_sub (fun _ h => List.mem_cons_of_mem _ (List.mem_append_right _ h)) (by decide +kernel))
set_option maxRecDepth 20000 in
theorem gX5_count_X5_mustLieWithin : GoodIn wsX5_count (va_wsS RX5 42 yX5_mustLieWithin wsX5_mustLieWithin) := goodIn_app (goodIn_of _ (by decide +kernel)) ggX5_count_X5_mustLieWithin
set_option maxRecDepth 20000 in
theorem ggX5_count_X4_isOver : GoodIn wsX5_count wsX4_isOver := goodIn_r _ [20] (by decide +kernel) (by decide +kernel)
set_option maxRecDepth 20000 in
theorem gX5_count_X4_isOver : GoodIn wsX5_count (va_wsS RX5 133 yX4_isOver wsX4_isOver) := goodIn_app (goodIn_of _ (by decide +kernel)) ggX5_count_X4_isOver
set_option maxRecDepth 20000 in
theorem ggX5_count_X4_actsLeft : GoodIn wsX5_count wsX4_actsLeft := goodIn_r _ [23] (by decide +kernel) (by decide +kernel)
set_option maxRecDepth 20000 in
theorem gX5_count_X4_actsLeft : GoodIn wsX5_count (va_wsS RX5 137 yX4_actsLeft wsX4_actsLeft) := goodIn_app (goodIn_of _ (by decide +kernel)) ggX5_count_X4_actsLeft
theorem dX5_count_0 : decode cX5_count 0 = .ok (.iload_n 1, 1) := by decide +kernel
theorem dX5_count_1 : decode cX5_count 1 = .ok (.iconst 0, 1) := by decide +kernel
theorem dX5_count_2 : decode cX5_count 2 = .ok (.bipush 8, 2) := by decide +kernel
theorem dX5_count_4 : decode cX5_count 4 = .ok (.invokestatic 42, 3) := by decide +kernel
theorem dX5_count_7 : decode cX5_count 7 = .ok (.iload_n 1, 1) := by decide +kernel
theorem dX5_count_8 : decode cX5_count 8 = .ok (.tableswitch 120 0 7 #[48, 56, 64, 72, 80, 88, 96, 104], 48) := by decide +kernel
theorem dX5_count_56 : decode cX5_count 56 = .ok (.aload_n 0, 1) := by decide +kernel
theorem dX5_count_57 : decode cX5_count 57 = .ok (.getfield 10, 3) := by decide +kernel
theorem dX5_count_60 : decode cX5_count 60 = .ok (.getfield 49, 3) := by decide +kernel
theorem dX5_count_63 : decode cX5_count 63 = .ok (.ireturn, 1) := by decide +kernel
theorem dX5_count_64 : decode cX5_count 64 = .ok (.aload_n 0, 1) := by decide +kernel
theorem dX5_count_65 : decode cX5_count 65 = .ok (.getfield 10, 3) := by decide +kernel
theorem dX5_count_68 : decode cX5_count 68 = .ok (.getfield 53, 3) := by decide +kernel
theorem dX5_count_71 : decode cX5_count 71 = .ok (.ireturn, 1) := by decide +kernel
theorem dX5_count_72 : decode cX5_count 72 = .ok (.aload_n 0, 1) := by decide +kernel
theorem dX5_count_73 : decode cX5_count 73 = .ok (.getfield 10, 3) := by decide +kernel
theorem dX5_count_76 : decode cX5_count 76 = .ok (.getfield 65, 3) := by decide +kernel
theorem dX5_count_79 : decode cX5_count 79 = .ok (.ireturn, 1) := by decide +kernel
theorem dX5_count_80 : decode cX5_count 80 = .ok (.aload_n 0, 1) := by decide +kernel
theorem dX5_count_81 : decode cX5_count 81 = .ok (.getfield 10, 3) := by decide +kernel
theorem dX5_count_84 : decode cX5_count 84 = .ok (.getfield 72, 3) := by decide +kernel
theorem dX5_count_87 : decode cX5_count 87 = .ok (.ireturn, 1) := by decide +kernel
theorem dX5_count_88 : decode cX5_count 88 = .ok (.aload_n 0, 1) := by decide +kernel
theorem dX5_count_89 : decode cX5_count 89 = .ok (.getfield 10, 3) := by decide +kernel
theorem dX5_count_92 : decode cX5_count 92 = .ok (.getfield 75, 3) := by decide +kernel
theorem dX5_count_95 : decode cX5_count 95 = .ok (.ireturn, 1) := by decide +kernel
theorem dX5_count_96 : decode cX5_count 96 = .ok (.aload_n 0, 1) := by decide +kernel
theorem dX5_count_97 : decode cX5_count 97 = .ok (.getfield 30, 3) := by decide +kernel
theorem dX5_count_100 : decode cX5_count 100 = .ok (.getfield 130, 3) := by decide +kernel
theorem dX5_count_103 : decode cX5_count 103 = .ok (.ireturn, 1) := by decide +kernel
theorem dX5_count_104 : decode cX5_count 104 = .ok (.aload_n 0, 1) := by decide +kernel
theorem dX5_count_105 : decode cX5_count 105 = .ok (.getfield 30, 3) := by decide +kernel
theorem dX5_count_108 : decode cX5_count 108 = .ok (.getfield 82, 3) := by decide +kernel
theorem dX5_count_111 : decode cX5_count 111 = .ok (.ireturn, 1) := by decide +kernel
theorem dX5_count_112 : decode cX5_count 112 = .ok (.aload_n 0, 1) := by decide +kernel
theorem dX5_count_113 : decode cX5_count 113 = .ok (.getfield 38, 3) := by decide +kernel
theorem dX5_count_116 : decode cX5_count 116 = .ok (.invokestatic 133, 3) := by decide +kernel
theorem dX5_count_119 : decode cX5_count 119 = .ok (.ifCond .eq 7, 3) := by decide +kernel
theorem dX5_count_122 : decode cX5_count 122 = .ok (.iconst 1, 1) := by decide +kernel
theorem dX5_count_123 : decode cX5_count 123 = .ok (.goto 4, 3) := by decide +kernel
theorem dX5_count_126 : decode cX5_count 126 = .ok (.iconst 0, 1) := by decide +kernel
theorem dX5_count_127 : decode cX5_count 127 = .ok (.ireturn, 1) := by decide +kernel
theorem dX5_count_128 : decode cX5_count 128 = .ok (.aload_n 0, 1) := by decide +kernel
theorem dX5_count_129 : decode cX5_count 129 = .ok (.getfield 38, 3) := by decide +kernel
theorem dX5_count_132 : decode cX5_count 132 = .ok (.invokestatic 137, 3) := by decide +kernel
theorem dX5_count_135 : decode cX5_count 135 = .ok (.ireturn, 1) := by decide +kernel
theorem dX5_mustLieWithin_0 : decode cX5_mustLieWithin 0 = .ok (.iload_n 0, 1) := by decide +kernel
theorem dX5_mustLieWithin_1 : decode cX5_mustLieWithin 1 = .ok (.iload_n 1, 1) := by decide +kernel
theorem dX5_mustLieWithin_2 : decode cX5_mustLieWithin 2 = .ok (.if_icmp .lt 8, 3) := by decide +kernel
theorem dX5_mustLieWithin_5 : decode cX5_mustLieWithin 5 = .ok (.iload_n 0, 1) := by decide +kernel
theorem dX5_mustLieWithin_6 : decode cX5_mustLieWithin 6 = .ok (.iload_n 2, 1) := by decide +kernel
theorem dX5_mustLieWithin_7 : decode cX5_mustLieWithin 7 = .ok (.if_icmp .le 13, 3) := by decide +kernel
theorem dX5_mustLieWithin_10 : decode cX5_mustLieWithin 10 = .ok (.new 140, 3) := by decide +kernel
theorem dX5_mustLieWithin_13 : decode cX5_mustLieWithin 13 = .ok (.dup, 1) := by decide +kernel
theorem dX5_mustLieWithin_14 : decode cX5_mustLieWithin 14 = .ok (.ldc 142, 2) := by decide +kernel
theorem dX5_mustLieWithin_16 : decode cX5_mustLieWithin 16 = .ok (.invokespecial 144, 3) := by decide +kernel
theorem dX5_mustLieWithin_19 : decode cX5_mustLieWithin 19 = .ok (.athrow, 1) := by decide +kernel
theorem dX5_mustLieWithin_20 : decode cX5_mustLieWithin 20 = .ok (.return_, 1) := by decide +kernel

theorem dJ7_fill_53178_0 : decode cJ7_fill_53178 0 = .ok (.iconst 0, 1) := by decide +kernel
theorem dJ7_fill_53178_1 : decode cJ7_fill_53178 1 = .ok (.istore_n 2, 1) := by decide +kernel
theorem dJ7_fill_53178_2 : decode cJ7_fill_53178 2 = .ok (.aload_n 0, 1) := by decide +kernel
theorem dJ7_fill_53178_3 : decode cJ7_fill_53178 3 = .ok (.arraylength, 1) := by decide +kernel
theorem dJ7_fill_53178_4 : decode cJ7_fill_53178 4 = .ok (.istore_n 3, 1) := by decide +kernel
theorem dJ7_fill_53178_5 : decode cJ7_fill_53178 5 = .ok (.iload_n 2, 1) := by decide +kernel
theorem dJ7_fill_53178_6 : decode cJ7_fill_53178 6 = .ok (.iload_n 3, 1) := by decide +kernel
theorem dJ7_fill_53178_7 : decode cJ7_fill_53178 7 = .ok (.if_icmp .ge 13, 3) := by decide +kernel
theorem dJ7_fill_53178_10 : decode cJ7_fill_53178 10 = .ok (.aload_n 0, 1) := by decide +kernel
theorem dJ7_fill_53178_11 : decode cJ7_fill_53178 11 = .ok (.iload_n 2, 1) := by decide +kernel
theorem dJ7_fill_53178_12 : decode cJ7_fill_53178 12 = .ok (.iload_n 1, 1) := by decide +kernel
theorem dJ7_fill_53178_13 : decode cJ7_fill_53178 13 = .ok (.iastore, 1) := by decide +kernel
theorem dJ7_fill_53178_14 : decode cJ7_fill_53178 14 = .ok (.iinc 2 1, 3) := by decide +kernel
theorem dJ7_fill_53178_17 : decode cJ7_fill_53178 17 = .ok (.goto (-12), 3) := by decide +kernel
theorem dJ7_fill_53178_20 : decode cJ7_fill_53178 20 = .ok (.return_, 1) := by decide +kernel
set_option maxRecDepth 20000 in
theorem ggL_size_X5_size : GoodIn wsL_size wsX5_size := goodIn_ca (goodIn_r _ [6, 7, 8, 9, 10, 5, 11, 12, 13, 14, 15, 16, 17, 18, 19, 20, 21, 22, 23, 24, 25, 26, 27, 28, 29, 30, 31, 32, 33, 34, 35, 36, 37, 38, 39, 40, 41, 42] (by decide +kernel) (by decide +kernel)) (goodIn_sub (fun _ h => List.mem_cons_of_mem _ (List.mem_append_right _ h)) (by decide +kernel))
set_option maxRecDepth 20000 in
theorem gL_size_X5_size : GoodIn wsL_size (wsV RL 7 RX5 yX5_size wsX5_size) := goodIn_app (goodIn_of _ (by decide +kernel)) ggL_size_X5_size
theorem dL_size_0 : decode cL_size 0 = .ok (.aload_n 0, 1) := by decide +kernel
theorem dL_size_1 : decode cL_size 1 = .ok (.iload_n 1, 1) := by decide +kernel
theorem dL_size_2 : decode cL_size 2 = .ok (.iload_n 2, 1) := by decide +kernel
theorem dL_size_3 : decode cL_size 3 = .ok (.iload_n 3, 1) := by decide +kernel
theorem dL_size_4 : decode cL_size 4 = .ok (.invokevirtual 7, 3) := by decide +kernel
theorem dL_size_7 : decode cL_size 7 = .ok (.goto 7, 3) := by decide +kernel
theorem dL_size_10 : decode cL_size 10 = .ok (.astore 4, 2) := by decide +kernel
theorem dL_size_12 : decode cL_size 12 = .ok (.iconst 1, 1) := by decide +kernel
theorem dL_size_13 : decode cL_size 13 = .ok (.ireturn, 1) := by decide +kernel
theorem dL_size_14 : decode cL_size 14 = .ok (.iconst 0, 1) := by decide +kernel
theorem dL_size_15 : decode cL_size 15 = .ok (.ireturn, 1) := by decide +kernel
set_option maxRecDepth 20000 in
theorem ggL_point_X5_point : GoodIn wsL_point wsX5_point := goodIn_ca (goodIn_r _ [6, 7, 8, 9, 10, 11, 12, 13, 5, 14, 15, 16, 17, 18, 19, 20, 21, 22, 23, 24, 25, 26, 27, 28, 29, 30, 31, 32, 33, 34, 35, 36, 37, 38, 39, 40, 41, 42, 43, 44, 45, 46] (by decide +kernel) (by decide +kernel)) (goodIn_sub (fun _ h => List.mem_cons_of_mem _ (List.mem_append_right _ h)) (by decide +kernel))
set_option maxRecDepth 20000 in
theorem gL_point_X5_point : GoodIn wsL_point (wsV RL 15 RX5 yX5_point wsX5_point) := goodIn_app (goodIn_of _ (by decide +kernel)) ggL_point_X5_point
theorem dL_point_0 : decode cL_point 0 = .ok (.aload_n 0, 1) := by decide +kernel
theorem dL_point_1 : decode cL_point 1 = .ok (.iload_n 1, 1) := by decide +kernel
theorem dL_point_2 : decode cL_point 2 = .ok (.iload_n 2, 1) := by decide +kernel
theorem dL_point_3 : decode cL_point 3 = .ok (.iload_n 3, 1) := by decide +kernel
theorem dL_point_4 : decode cL_point 4 = .ok (.invokevirtual 15, 3) := by decide +kernel
theorem dL_point_7 : decode cL_point 7 = .ok (.goto 7, 3) := by decide +kernel
theorem dL_point_10 : decode cL_point 10 = .ok (.astore 4, 2) := by decide +kernel
theorem dL_point_12 : decode cL_point 12 = .ok (.iconst 1, 1) := by decide +kernel
theorem dL_point_13 : decode cL_point 13 = .ok (.ireturn, 1) := by decide +kernel
theorem dL_point_14 : decode cL_point 14 = .ok (.iconst 0, 1) := by decide +kernel
theorem dL_point_15 : decode cL_point 15 = .ok (.ireturn, 1) := by decide +kernel
set_option maxRecDepth 20000 in
theorem ggL_root_X5_root : GoodIn wsL_root wsX5_root := goodIn_ca (goodIn_r _ [6, 7, 8, 9, 10, 11, 12, 13, 5, 14, 15, 16, 17, 18, 19, 20, 21, 22, 23, 24, 25, 26, 27, 28, 29, 30, 31, 32, 33, 34, 35, 36, 37, 38, 39, 40, 41, 42, 43, 44, 45, 46] (by decide +kernel) (by decide +kernel)) (goodIn_sub (fun _ h => List.mem_cons_of_mem _ (List.mem_append_right _ h)) (by decide +kernel))
set_option maxRecDepth 20000 in
theorem gL_root_X5_root : GoodIn wsL_root (wsV RL 18 RX5 yX5_root wsX5_root) := goodIn_app (goodIn_of _ (by decide +kernel)) ggL_root_X5_root
theorem dL_root_0 : decode cL_root 0 = .ok (.aload_n 0, 1) := by decide +kernel
theorem dL_root_1 : decode cL_root 1 = .ok (.iload_n 1, 1) := by decide +kernel
theorem dL_root_2 : decode cL_root 2 = .ok (.iload_n 2, 1) := by decide +kernel
theorem dL_root_3 : decode cL_root 3 = .ok (.invokevirtual 18, 3) := by decide +kernel
theorem dL_root_6 : decode cL_root 6 = .ok (.goto 6, 3) := by decide +kernel
theorem dL_root_9 : decode cL_root 9 = .ok (.astore_n 3, 1) := by decide +kernel
theorem dL_root_10 : decode cL_root 10 = .ok (.iconst 1, 1) := by decide +kernel
theorem dL_root_11 : decode cL_root 11 = .ok (.ireturn, 1) := by decide +kernel
theorem dL_root_12 : decode cL_root 12 = .ok (.iconst 0, 1) := by decide +kernel
theorem dL_root_13 : decode cL_root 13 = .ok (.ireturn, 1) := by decide +kernel
set_option maxRecDepth 20000 in
theorem ggL_rules_X5_rules : GoodIn wsL_rules wsX5_rules := goodIn_ca (goodIn_r _ [6, 7, 8, 9, 10, 11, 12, 5, 13, 14, 15, 16, 17, 18, 19, 20, 21, 22, 23, 24, 25, 26, 27, 28, 29, 30, 31, 32, 33, 34, 35, 36, 37] (by decide +kernel) (by decide +kernel)) (goodIn_sub (fun _ h => List.mem_cons_of_mem _ (List.mem_append_right _ h)) (by decide +kernel))
set_option maxRecDepth 20000 in
theorem gL_rules_X5_rules : GoodIn wsL_rules (wsV RL 22 RX5 yX5_rules wsX5_rules) := goodIn_app (goodIn_of _ (by decide +kernel)) ggL_rules_X5_rules
theorem dL_rules_0 : decode cL_rules 0 = .ok (.aload_n 0, 1) := by decide +kernel
theorem dL_rules_1 : decode cL_rules 1 = .ok (.iload_n 1, 1) := by decide +kernel
theorem dL_rules_2 : decode cL_rules 2 = .ok (.iload_n 2, 1) := by decide +kernel
theorem dL_rules_3 : decode cL_rules 3 = .ok (.invokevirtual 22, 3) := by decide +kernel
theorem dL_rules_6 : decode cL_rules 6 = .ok (.goto 6, 3) := by decide +kernel
theorem dL_rules_9 : decode cL_rules 9 = .ok (.astore_n 3, 1) := by decide +kernel
theorem dL_rules_10 : decode cL_rules 10 = .ok (.iconst 1, 1) := by decide +kernel
theorem dL_rules_11 : decode cL_rules 11 = .ok (.ireturn, 1) := by decide +kernel
theorem dL_rules_12 : decode cL_rules 12 = .ok (.iconst 0, 1) := by decide +kernel
theorem dL_rules_13 : decode cL_rules 13 = .ok (.ireturn, 1) := by decide +kernel
set_option maxRecDepth 20000 in
theorem ggL_find_X5_find : GoodIn wsL_find wsX5_find := goodIn_ca (goodIn_r _ [6, 7, 8, 9, 10, 5, 11, 12, 13, 14, 15, 16, 17, 18, 19, 20, 21, 22, 23, 24, 25, 26, 27, 28, 29, 30, 31, 32, 33, 34, 35, 36, 37, 38, 39, 40, 41, 42, 43, 44, 45, 46, 47, 48, 49, 50, 51, 52, 53, 54, 55, 56, 57, 58, 59, 60, 61, 62, 63, 64, 65, 66, 67, 68, 69, 70, 71, 72, 73, 74, 75, 76, 77, 78, 79, 80, 81, 82, 83, 84, 85, 86, 87, 88, 89, 90, 91, 92, 93, 94, 95, 96, 97, 98, 99, 100, 101, 102, 103, 104, 105, 106, 107, 108, 109, 110, 111, 112, 113, 114, 115, 116, 117, 118, 119, 120, 121, 122, 123, 124, 125, 126, 127, 128, 129, 130, 131, 132, 133, 134, 135, 136, 137, 138, 139, 140, 141, 142, 143, 144, 145, 146, 147, 148, 149, 150, 151, 152, 153, 154, 155, 156, 157, 158, 159, 160, 161, 162, 163, 164, 165, 166, 167, 168, 169, 170, 171, 172, 173, 174, 175, 176, 177, 178, 179, 180, 181, 182, 183, 184, 185, 186, 187, 188, 189, 190, 191, 192, 193, 194, 195, 196, 197, 198, 199, 200, 201, 202, 203, 204, 205, 206, 207, 208, 209, 210, 211, 212, 213, 214, 215, 216, 217, 218, 219, 220, 221, 222] (by decide +kernel) (by decide +kernel)) (goodIn_sub (fun _ h => List.mem_cons_of_mem _ (List.mem_append_right _ h)) (by decide +kernel))
set_option maxRecDepth 20000 in
theorem gL_find_X5_find : GoodIn wsL_find (wsV RL 25 RX5 yX5_find wsX5_find) := goodIn_app (goodIn_of _ (by decide +kernel)) ggL_find_X5_find
theorem dL_find_0 : decode cL_find 0 = .ok (.aload_n 2, 1) := by decide +kernel
theorem dL_find_1 : decode cL_find 1 = .ok (.iconst 0, 1) := by decide +kernel
theorem dL_find_2 : decode cL_find 2 = .ok (.aload_n 0, 1) := by decide +kernel
theorem dL_find_3 : decode cL_find 3 = .ok (.iload_n 1, 1) := by decide +kernel
theorem dL_find_4 : decode cL_find 4 = .ok (.invokevirtual 25, 3) := by decide +kernel
theorem dL_find_7 : decode cL_find 7 = .ok (.i2l, 1) := by decide +kernel
theorem dL_find_8 : decode cL_find 8 = .ok (.lastore, 1) := by decide +kernel
theorem dL_find_9 : decode cL_find 9 = .ok (.goto 6, 3) := by decide +kernel
theorem dL_find_12 : decode cL_find 12 = .ok (.astore_n 3, 1) := by decide +kernel
theorem dL_find_13 : decode cL_find 13 = .ok (.iconst 1, 1) := by decide +kernel
theorem dL_find_14 : decode cL_find 14 = .ok (.ireturn, 1) := by decide +kernel
theorem dL_find_15 : decode cL_find 15 = .ok (.iconst 0, 1) := by decide +kernel
theorem dL_find_16 : decode cL_find 16 = .ok (.ireturn, 1) := by decide +kernel
set_option maxRecDepth 20000 in
theorem ggL_act_X5_act : GoodIn wsL_act wsX5_act := goodIn_ca (goodIn_r _ [6, 7, 8, 9, 10, 11, 12, 13, 14, 15, 16, 17, 18, 19, 20, 21, 22] (by decide +kernel) (by decide +kernel)) (goodIn_sub (fun _ h => List.mem_cons_of_mem _ (List.mem_append_right _ h)) (by decide +kernel))
set_option maxRecDepth 20000 in
theorem gL_act_X5_act : GoodIn wsL_act (wsV RL 29 RX5 yX5_act wsX5_act) := goodIn_app (goodIn_of _ (by decide +kernel)) ggL_act_X5_act
theorem dL_act_0 : decode cL_act 0 = .ok (.aload_n 2, 1) := by decide +kernel
theorem dL_act_1 : decode cL_act 1 = .ok (.iconst 0, 1) := by decide +kernel
theorem dL_act_2 : decode cL_act 2 = .ok (.aload_n 0, 1) := by decide +kernel
theorem dL_act_3 : decode cL_act 3 = .ok (.iload_n 1, 1) := by decide +kernel
theorem dL_act_4 : decode cL_act 4 = .ok (.invokevirtual 29, 3) := by decide +kernel
theorem dL_act_7 : decode cL_act 7 = .ok (.i2l, 1) := by decide +kernel
theorem dL_act_8 : decode cL_act 8 = .ok (.lastore, 1) := by decide +kernel
theorem dL_act_9 : decode cL_act 9 = .ok (.goto 6, 3) := by decide +kernel
theorem dL_act_12 : decode cL_act 12 = .ok (.astore_n 3, 1) := by decide +kernel
theorem dL_act_13 : decode cL_act 13 = .ok (.iconst 1, 1) := by decide +kernel
theorem dL_act_14 : decode cL_act 14 = .ok (.ireturn, 1) := by decide +kernel
theorem dL_act_15 : decode cL_act 15 = .ok (.iconst 0, 1) := by decide +kernel
theorem dL_act_16 : decode cL_act 16 = .ok (.ireturn, 1) := by decide +kernel
set_option maxRecDepth 20000 in
theorem ggL_play_X5_play : GoodIn wsL_play wsX5_play := goodIn_ca (goodIn_ca (goodIn_r _ [7, 8, 9, 10, 11, 12, 13, 14, 6, 15, 16, 17, 18, 19, 20, 21, 22, 23, 24, 25, 26, 27, 28, 29, 30, 31, 32, 33, 34, 35, 36, 37, 38, 39, 40, 41, 42, 43, 44, 45, 46, 47, 48, 49, 50, 51, 52, 53, 54, 55, 56, 57, 58, 59, 60, 61, 62, 63, 64, 65, 66, 67, 68, 69, 70, 71, 72, 73, 74, 75, 76, 77, 78, 79, 80, 81, 82, 83, 84, 85, 86, 87, 88, 89, 90, 91, 92, 93, 94, 95, 96, 97, 98, 99, 100, 101, 102, 103, 104, 105, 106, 107, 108, 109, 110, 111, 112, 113, 114, 115, 116, 117, 118, 119, 120, 121, 122, 123, 124, 125, 126, 127, 128, 129, 130, 131, 132, 133, 134, 135, 136, 137, 138, 139, 140, 141, 142, 143, 144, 145, 146, 147, 148, 149, 150] (by decide +kernel) (by decide +kernel)) (goodIn_sub (fun _ h => List.mem_cons_of_mem _ (List.mem_append_left _ (List.mem_append_right _ h))) (by decide +kernel))) (goodIn_sub (fun _ h => List.mem_cons_of_mem _ (List.mem_append_right _ h)) (by decide +kernel))
set_option maxRecDepth 20000 in
theorem gL_play_X5_play : GoodIn wsL_play (wsV RL 34 RX5 yX5_play wsX5_play) := goodIn_app (goodIn_of _ (by decide +kernel)) ggL_play_X5_play
theorem dL_play_0 : decode cL_play 0 = .ok (.aload_n 2, 1) := by decide +kernel
theorem dL_play_1 : decode cL_play 1 = .ok (.iconst 0, 1) := by decide +kernel
theorem dL_play_2 : decode cL_play 2 = .ok (.aload_n 0, 1) := by decide +kernel
theorem dL_play_3 : decode cL_play 3 = .ok (.iload_n 1, 1) := by decide +kernel
theorem dL_play_4 : decode cL_play 4 = .ok (.invokevirtual 34, 3) := by decide +kernel
theorem dL_play_7 : decode cL_play 7 = .ok (.i2l, 1) := by decide +kernel
theorem dL_play_8 : decode cL_play 8 = .ok (.lastore, 1) := by decide +kernel
theorem dL_play_9 : decode cL_play 9 = .ok (.goto 9, 3) := by decide +kernel
theorem dL_play_12 : decode cL_play 12 = .ok (.astore_n 3, 1) := by decide +kernel
theorem dL_play_13 : decode cL_play 13 = .ok (.iconst 1, 1) := by decide +kernel
theorem dL_play_14 : decode cL_play 14 = .ok (.ireturn, 1) := by decide +kernel
theorem dL_play_15 : decode cL_play 15 = .ok (.astore_n 3, 1) := by decide +kernel
theorem dL_play_16 : decode cL_play 16 = .ok (.iconst 2, 1) := by decide +kernel
theorem dL_play_17 : decode cL_play 17 = .ok (.ireturn, 1) := by decide +kernel
theorem dL_play_18 : decode cL_play 18 = .ok (.iconst 0, 1) := by decide +kernel
theorem dL_play_19 : decode cL_play 19 = .ok (.ireturn, 1) := by decide +kernel
set_option maxRecDepth 20000 in
theorem ggL_broken_X5_broken : GoodIn wsL_broken wsX5_broken := goodIn_ca (goodIn_r _ [6, 7, 8, 9, 5, 10, 11, 12, 13, 14, 15, 16, 17, 18, 19, 20, 21, 22, 23, 24, 25, 26, 27, 28, 29, 30, 31, 32, 33, 34, 35, 36, 37, 38, 39, 40, 41, 42, 43, 44, 45, 46, 47, 48, 49, 50, 51, 52, 53] (by decide +kernel) (by decide +kernel)) (goodIn_sub (fun _ h => List.mem_cons_of_mem _ (List.mem_append_right _ h)) (by decide +kernel))
set_option maxRecDepth 20000 in
theorem gL_broken_X5_broken : GoodIn wsL_broken (wsV RL 39 RX5 yX5_broken wsX5_broken) := goodIn_app (goodIn_of _ (by decide +kernel)) ggL_broken_X5_broken
theorem dL_broken_0 : decode cL_broken 0 = .ok (.aload_n 2, 1) := by decide +kernel
theorem dL_broken_1 : decode cL_broken 1 = .ok (.iconst 0, 1) := by decide +kernel
theorem dL_broken_2 : decode cL_broken 2 = .ok (.aload_n 0, 1) := by decide +kernel
theorem dL_broken_3 : decode cL_broken 3 = .ok (.iload_n 1, 1) := by decide +kernel
theorem dL_broken_4 : decode cL_broken 4 = .ok (.invokevirtual 39, 3) := by decide +kernel
theorem dL_broken_7 : decode cL_broken 7 = .ok (.ifCond .eq 7, 3) := by decide +kernel
theorem dL_broken_10 : decode cL_broken 10 = .ok (.lconst 1, 1) := by decide +kernel
theorem dL_broken_11 : decode cL_broken 11 = .ok (.goto 4, 3) := by decide +kernel
theorem dL_broken_14 : decode cL_broken 14 = .ok (.lconst 0, 1) := by decide +kernel
theorem dL_broken_15 : decode cL_broken 15 = .ok (.lastore, 1) := by decide +kernel
theorem dL_broken_16 : decode cL_broken 16 = .ok (.goto 6, 3) := by decide +kernel
theorem dL_broken_19 : decode cL_broken 19 = .ok (.astore_n 3, 1) := by decide +kernel
theorem dL_broken_20 : decode cL_broken 20 = .ok (.iconst 1, 1) := by decide +kernel
theorem dL_broken_21 : decode cL_broken 21 = .ok (.ireturn, 1) := by decide +kernel
theorem dL_broken_22 : decode cL_broken 22 = .ok (.iconst 0, 1) := by decide +kernel
theorem dL_broken_23 : decode cL_broken 23 = .ok (.ireturn, 1) := by decide +kernel
set_option maxRecDepth 20000 in
theorem ggL_colour_X5_colour : GoodIn wsL_colour wsX5_colour := goodIn_ca (goodIn_r _ [6, 7, 8, 9, 10, 11, 5, 12, 13, 14, 15, 16, 17, 18, 19, 20, 21, 22, 23, 24, 25, 26, 27, 28, 29, 30, 31, 32, 33, 34] (by decide +kernel) (by decide +kernel)) (goodIn_sub (fun _ h => List.mem_cons_of_mem _ (List.mem_append_right _ h)) (by decide +kernel))
set_option maxRecDepth 20000 in
theorem gL_colour_X5_colour : GoodIn wsL_colour (wsV RL 43 RX5 yX5_colour wsX5_colour) := goodIn_app (goodIn_of _ (by decide +kernel)) ggL_colour_X5_colour
theorem dL_colour_0 : decode cL_colour 0 = .ok (.aload_n 2, 1) := by decide +kernel
theorem dL_colour_1 : decode cL_colour 1 = .ok (.iconst 0, 1) := by decide +kernel
theorem dL_colour_2 : decode cL_colour 2 = .ok (.aload_n 0, 1) := by decide +kernel
theorem dL_colour_3 : decode cL_colour 3 = .ok (.iload_n 1, 1) := by decide +kernel
theorem dL_colour_4 : decode cL_colour 4 = .ok (.invokevirtual 43, 3) := by decide +kernel
theorem dL_colour_7 : decode cL_colour 7 = .ok (.i2l, 1) := by decide +kernel
theorem dL_colour_8 : decode cL_colour 8 = .ok (.lastore, 1) := by decide +kernel
theorem dL_colour_9 : decode cL_colour 9 = .ok (.goto 6, 3) := by decide +kernel
theorem dL_colour_12 : decode cL_colour 12 = .ok (.astore_n 3, 1) := by decide +kernel
theorem dL_colour_13 : decode cL_colour 13 = .ok (.iconst 1, 1) := by decide +kernel
theorem dL_colour_14 : decode cL_colour 14 = .ok (.ireturn, 1) := by decide +kernel
theorem dL_colour_15 : decode cL_colour 15 = .ok (.iconst 0, 1) := by decide +kernel
theorem dL_colour_16 : decode cL_colour 16 = .ok (.ireturn, 1) := by decide +kernel
set_option maxRecDepth 20000 in
theorem ggL_field_X5_field : GoodIn wsL_field wsX5_field := goodIn_ca (goodIn_r _ [6, 7, 8, 9, 10, 11, 12, 5, 13, 14, 15, 16, 17, 18, 19, 20, 21, 22, 23, 24, 25, 26, 27, 28, 29, 30, 31, 32] (by decide +kernel) (by decide +kernel)) (goodIn_sub (fun _ h => List.mem_cons_of_mem _ (List.mem_append_right _ h)) (by decide +kernel))
set_option maxRecDepth 20000 in
theorem gL_field_X5_field : GoodIn wsL_field (wsV RL 46 RX5 yX5_field wsX5_field) := goodIn_app (goodIn_of _ (by decide +kernel)) ggL_field_X5_field
theorem dL_field_0 : decode cL_field 0 = .ok (.aload_n 3, 1) := by decide +kernel
theorem dL_field_1 : decode cL_field 1 = .ok (.iconst 0, 1) := by decide +kernel
theorem dL_field_2 : decode cL_field 2 = .ok (.aload_n 0, 1) := by decide +kernel
theorem dL_field_3 : decode cL_field 3 = .ok (.iload_n 1, 1) := by decide +kernel
theorem dL_field_4 : decode cL_field 4 = .ok (.iload_n 2, 1) := by decide +kernel
theorem dL_field_5 : decode cL_field 5 = .ok (.invokevirtual 46, 3) := by decide +kernel
theorem dL_field_8 : decode cL_field 8 = .ok (.i2l, 1) := by decide +kernel
theorem dL_field_9 : decode cL_field 9 = .ok (.lastore, 1) := by decide +kernel
theorem dL_field_10 : decode cL_field 10 = .ok (.goto 7, 3) := by decide +kernel
theorem dL_field_13 : decode cL_field 13 = .ok (.astore 4, 2) := by decide +kernel
theorem dL_field_15 : decode cL_field 15 = .ok (.iconst 1, 1) := by decide +kernel
theorem dL_field_16 : decode cL_field 16 = .ok (.ireturn, 1) := by decide +kernel
theorem dL_field_17 : decode cL_field 17 = .ok (.iconst 0, 1) := by decide +kernel
theorem dL_field_18 : decode cL_field 18 = .ok (.ireturn, 1) := by decide +kernel
set_option maxRecDepth 20000 in
theorem ggL_has_X5_has : GoodIn wsL_has wsX5_has := goodIn_ca (goodIn_r _ [6, 7, 8, 9, 10, 11, 5, 12, 13, 14, 15, 16, 17, 18, 19, 20, 21, 22, 23, 24, 25, 26, 27, 28, 29, 30, 31] (by decide +kernel) (by decide +kernel)) (goodIn_sub (fun _ h => List.mem_cons_of_mem _ (List.mem_append_right _ h)) (by decide +kernel))
set_option maxRecDepth 20000 in
theorem gL_has_X5_has : GoodIn wsL_has (wsV RL 50 RX5 yX5_has wsX5_has) := goodIn_app (goodIn_of _ (by decide +kernel)) ggL_has_X5_has
theorem dL_has_0 : decode cL_has 0 = .ok (.aload_n 2, 1) := by decide +kernel
theorem dL_has_1 : decode cL_has 1 = .ok (.iconst 0, 1) := by decide +kernel
theorem dL_has_2 : decode cL_has 2 = .ok (.aload_n 0, 1) := by decide +kernel
theorem dL_has_3 : decode cL_has 3 = .ok (.iload_n 1, 1) := by decide +kernel
theorem dL_has_4 : decode cL_has 4 = .ok (.invokevirtual 50, 3) := by decide +kernel
theorem dL_has_7 : decode cL_has 7 = .ok (.i2l, 1) := by decide +kernel
theorem dL_has_8 : decode cL_has 8 = .ok (.lastore, 1) := by decide +kernel
theorem dL_has_9 : decode cL_has 9 = .ok (.goto 6, 3) := by decide +kernel
theorem dL_has_12 : decode cL_has 12 = .ok (.astore_n 3, 1) := by decide +kernel
theorem dL_has_13 : decode cL_has 13 = .ok (.iconst 1, 1) := by decide +kernel
theorem dL_has_14 : decode cL_has 14 = .ok (.ireturn, 1) := by decide +kernel
theorem dL_has_15 : decode cL_has 15 = .ok (.iconst 0, 1) := by decide +kernel
theorem dL_has_16 : decode cL_has 16 = .ok (.ireturn, 1) := by decide +kernel
set_option maxRecDepth 20000 in
theorem ggL_count_X5_count : GoodIn wsL_count wsX5_count := goodIn_ca (goodIn_r _ [6, 7, 8, 9, 10, 11, 12, 13, 14, 15, 16, 17, 18, 5, 19, 20, 21, 22, 23, 24, 25, 26, 27, 28, 29, 30, 31, 32, 33, 34, 35, 36, 37, 38, 39, 40, 41, 42, 43, 44, 45] (by decide +kernel) (by decide +kernel)) (goodIn_sub (fun _ h => List.mem_cons_of_mem _ (List.mem_append_right _ h)) (by decide +kernel))
set_option maxRecDepth 20000 in
theorem gL_count_X5_count : GoodIn wsL_count (wsV RL 53 RX5 yX5_count wsX5_count) := goodIn_app (goodIn_of _ (by decide +kernel)) ggL_count_X5_count
theorem dL_count_0 : decode cL_count 0 = .ok (.aload_n 2, 1) := by decide +kernel
theorem dL_count_1 : decode cL_count 1 = .ok (.iconst 0, 1) := by decide +kernel
theorem dL_count_2 : decode cL_count 2 = .ok (.aload_n 0, 1) := by decide +kernel
theorem dL_count_3 : decode cL_count 3 = .ok (.iload_n 1, 1) := by decide +kernel
theorem dL_count_4 : decode cL_count 4 = .ok (.invokevirtual 53, 3) := by decide +kernel
theorem dL_count_7 : decode cL_count 7 = .ok (.i2l, 1) := by decide +kernel
theorem dL_count_8 : decode cL_count 8 = .ok (.lastore, 1) := by decide +kernel
theorem dL_count_9 : decode cL_count 9 = .ok (.goto 6, 3) := by decide +kernel
theorem dL_count_12 : decode cL_count 12 = .ok (.astore_n 3, 1) := by decide +kernel
theorem dL_count_13 : decode cL_count 13 = .ok (.iconst 1, 1) := by decide +kernel
theorem dL_count_14 : decode cL_count 14 = .ok (.ireturn, 1) := by decide +kernel
theorem dL_count_15 : decode cL_count 15 = .ok (.iconst 0, 1) := by decide +kernel
theorem dL_count_16 : decode cL_count 16 = .ok (.ireturn, 1) := by decide +kernel
set_option maxRecDepth 20000 in
theorem ggL_law_X5_init : GoodIn wsL_law wsX5_init := goodIn_r _ [9, 10, 11, 12, 13, 14, 15, 16, 17, 18, 19, 20, 21, 22, 23, 24, 25, 26, 27, 28, 29, 30, 31, 32, 33, 34, 35, 36, 37, 38, 39, 40, 41, 42, 43, 6, 44, 45, 46, 47, 48, 49, 50, 51, 52, 53, 54, 55, 56, 57, 58, 59, 60, 61, 570, 571, 572, 573, 574, 575, 541, 542, 543, 544, 576, 577, 578, 579, 580, 581, 582, 583] (by decide +kernel) (by decide +kernel)
set_option maxRecDepth 20000 in
theorem gL_law_X5_init : GoodIn wsL_law (wsX5_init) := ggL_law_X5_init
set_option maxRecDepth 20000 in
theorem ggL_law_X6_init : GoodIn wsL_law wsX6_init := goodIn_r _ [64, 65, 11, 12, 66, 67, 68, 45, 69, 70, 71, 72, 73, 74, 6, 75, 76, 77, 78, 79, 80, 81, 82, 83, 84, 85, 86, 5, 87, 88, 89, 90, 91, 92, 93, 94, 95, 96, 97, 98, 99, 545, 546, 547, 548, 549, 550, 551, 552, 553, 554, 555, 556, 557, 558, 559, 560, 561, 562, 563, 564, 565, 566, 567, 568, 569] (by decide +kernel) (by decide +kernel)
set_option maxRecDepth 20000 in
theorem gL_law_X6_init : GoodIn wsL_law (wsX6_init) := ggL_law_X6_init
set_option maxRecDepth 20000 in
theorem ggL_law_L_size : GoodIn wsL_law wsL_size := goodIn_ca (goodIn_r _ [103, 104, 105, 106, 107, 2, 108, 16, 25, 109, 110, 111, 112, 113, 114, 115, 116, 15, 117, 29, 30, 31, 34, 53, 54, 55, 56, 33, 57, 58, 59, 60, 61, 541, 542, 543, 544, 570, 571, 572, 573, 574, 575] (by decide +kernel) (by decide +kernel)) (goodIn_sub (fun _ h => List.mem_append_left _ (List.mem_append_left _ (List.mem_append_right _ h))) (by decide +kernel))
set_option maxRecDepth 20000 in
theorem gL_law_L_size : GoodIn wsL_law (va_wsS RL 60 yL_size wsL_size) := goodIn_app (goodIn_of _ (by decide +kernel)) ggL_law_L_size
set_option maxRecDepth 20000 in
theorem ggL_law_X6_size : GoodIn wsL_law wsX6_size := goodIn_r _ [121, 66, 67, 68, 69, 70, 83, 122, 123, 124, 5, 125, 126, 84, 85, 86, 87, 71, 72, 73, 74, 88, 89, 90, 91, 92, 93, 94, 95, 96, 97, 98, 99, 545, 546, 547, 548, 549, 550, 551, 552, 553, 554, 555, 556, 557, 558, 559, 560, 561, 562, 563, 564, 565, 566, 567, 568, 569] (by decide +kernel) (by decide +kernel)
set_option maxRecDepth 20000 in
theorem gL_law_X6_size : GoodIn wsL_law (wsV RL 65 RX6 yX6_size wsX6_size) := goodIn_app (goodIn_of _ (by decide +kernel)) ggL_law_X6_size
set_option maxRecDepth 20000 in
theorem ggL_law_X6_thrown : GoodIn wsL_law wsX6_thrown := goodIn_r _ [130, 126, 545, 546, 547, 548, 549, 550, 551, 552, 553, 554, 555, 556, 557, 558, 559, 560, 561, 562, 563, 564, 565, 566, 567, 568, 569] (by decide +kernel) (by decide +kernel)
set_option maxRecDepth 20000 in
theorem gL_law_X6_thrown : GoodIn wsL_law (wsV RL 66 RX6 yX6_thrown wsX6_thrown) := goodIn_app (goodIn_of _ (by decide +kernel)) ggL_law_X6_thrown
set_option maxRecDepth 20000 in
theorem ggL_law_L_point : GoodIn wsL_law wsL_point := goodIn_ca (goodIn_r _ [133, 104, 134, 135, 136, 2, 137, 16, 138, 139, 140, 25, 109, 110, 111, 112, 113, 141, 142, 59, 143, 144, 145, 146, 147, 148, 53, 54, 55, 15, 56, 34, 33, 57, 58, 60, 61, 541, 542, 543, 544, 570, 571, 572, 573, 574, 575] (by decide +kernel) (by decide +kernel)) (goodIn_sub (fun _ h => List.mem_append_left _ (List.mem_append_left _ (List.mem_append_right _ h))) (by decide +kernel))
set_option maxRecDepth 20000 in
theorem gL_law_L_point : GoodIn wsL_law (va_wsS RL 70 yL_point wsL_point) := goodIn_app (goodIn_of _ (by decide +kernel)) ggL_law_L_point
set_option maxRecDepth 20000 in
theorem ggL_law_X6_point : GoodIn wsL_law wsX6_point := goodIn_r _ [152, 66, 67, 69, 83, 153, 154, 155, 5, 156, 122, 123, 124, 125, 126, 84, 85, 86, 87, 71, 72, 70, 73, 74, 88, 89, 90, 91, 92, 93, 94, 95, 96, 97, 98, 99, 545, 546, 547, 548, 549, 550, 551, 552, 553, 554, 555, 556, 557, 558, 559, 560, 561, 562, 563, 564, 565, 566, 567, 568, 569] (by decide +kernel) (by decide +kernel)
set_option maxRecDepth 20000 in
theorem gL_law_X6_point : GoodIn wsL_law (wsV RL 72 RX6 yX6_point wsX6_point) := goodIn_app (goodIn_of _ (by decide +kernel)) ggL_law_X6_point
set_option maxRecDepth 20000 in
theorem ggL_law_L_root : GoodIn wsL_law wsL_root := goodIn_ca (goodIn_r _ [159, 104, 160, 161, 162, 2, 163, 16, 164, 138, 140, 25, 109, 110, 111, 112, 113, 165, 166, 59, 167, 144, 145, 168, 169, 170, 53, 54, 55, 15, 56, 34, 33, 57, 58, 60, 61, 541, 542, 543, 544, 570, 571, 572, 573, 574, 575] (by decide +kernel) (by decide +kernel)) (goodIn_sub (fun _ h => List.mem_append_left _ (List.mem_append_left _ (List.mem_append_right _ h))) (by decide +kernel))
set_option maxRecDepth 20000 in
theorem gL_law_L_root : GoodIn wsL_law (va_wsS RL 73 yL_root wsL_root) := goodIn_app (goodIn_of _ (by decide +kernel)) ggL_law_L_root
set_option maxRecDepth 20000 in
theorem ggL_law_X6_root : GoodIn wsL_law wsX6_root := goodIn_r _ [174, 68, 70, 83, 153, 154, 155, 5, 156, 66, 122, 123, 124, 125, 126, 84, 85, 86, 87, 71, 69, 72, 73, 74, 88, 89, 90, 91, 92, 93, 94, 95, 96, 97, 98, 99, 545, 546, 547, 548, 549, 550, 551, 552, 553, 554, 555, 556, 557, 558, 559, 560, 561, 562, 563, 564, 565, 566, 567, 568, 569] (by decide +kernel) (by decide +kernel)
set_option maxRecDepth 20000 in
theorem gL_law_X6_root : GoodIn wsL_law (wsV RL 76 RX6 yX6_root wsX6_root) := goodIn_app (goodIn_of _ (by decide +kernel)) ggL_law_X6_root
set_option maxRecDepth 20000 in
theorem ggL_law_L_rules : GoodIn wsL_law wsL_rules := goodIn_ca (goodIn_r _ [177, 104, 178, 179, 180, 2, 181, 16, 182, 183, 25, 109, 110, 111, 112, 113, 53, 54, 55, 15, 56, 34, 33, 57, 58, 59, 60, 61, 541, 542, 543, 544, 570, 571, 572, 573, 574, 575] (by decide +kernel) (by decide +kernel)) (goodIn_sub (fun _ h => List.mem_append_left _ (List.mem_append_left _ (List.mem_append_right _ h))) (by decide +kernel))
set_option maxRecDepth 20000 in
theorem gL_law_L_rules : GoodIn wsL_law (va_wsS RL 77 yL_rules wsL_rules) := goodIn_app (goodIn_of _ (by decide +kernel)) ggL_law_L_rules
set_option maxRecDepth 20000 in
theorem ggL_law_X6_rules : GoodIn wsL_law wsX6_rules := goodIn_r _ [187, 188, 89, 83, 122, 123, 124, 5, 125, 126, 84, 85, 86, 87, 71, 69, 72, 70, 73, 74, 88, 90, 91, 92, 93, 94, 95, 96, 97, 98, 99, 545, 546, 547, 548, 549, 550, 551, 552, 553, 554, 555, 556, 557, 558, 559, 560, 561, 562, 563, 564, 565, 566, 567, 568, 569] (by decide +kernel) (by decide +kernel)
set_option maxRecDepth 20000 in
theorem gL_law_X6_rules : GoodIn wsL_law (wsV RL 79 RX6 yX6_rules wsX6_rules) := goodIn_app (goodIn_of _ (by decide +kernel)) ggL_law_X6_rules
set_option maxRecDepth 20000 in
theorem ggL_law_L_find : GoodIn wsL_law wsL_find := goodIn_ca (goodIn_r _ [191, 104, 192, 193, 194, 2, 195, 24, 16, 109, 110, 111, 112, 113, 53, 54, 55, 15, 56, 34, 33, 57, 58, 59, 60, 61, 196, 197, 198, 23, 199, 48, 49, 51, 200, 201, 202, 203, 204, 205, 206, 207, 208, 47, 44, 209, 210, 211, 212, 46, 213, 214, 215, 216, 52, 217, 218, 219, 220, 19, 221, 222, 223, 224, 225, 226, 227, 228, 229, 230, 231, 232, 233, 234, 235, 236, 39, 237, 238, 239, 240, 241, 242, 243, 244, 245, 246, 247, 248, 168, 169, 170, 249, 250, 251, 252, 253, 254, 255, 256, 257, 258, 259, 260, 146, 147, 148, 261, 262, 263, 264, 265, 266, 145, 267, 268, 269, 270, 271, 272, 273, 274, 275, 276, 277, 32, 278, 279, 280, 281, 282, 283, 284, 285, 286, 287, 288, 289, 290, 291, 166, 167, 144, 292, 293, 294, 295, 296, 297, 298, 299, 300, 301, 302, 303, 304, 305, 306, 307, 308, 309, 310, 142, 143, 311, 312, 313, 314, 315, 316, 317, 318, 319, 320, 321, 322, 323, 324, 325, 326, 327, 328, 329, 330, 331, 332, 333, 334, 335, 336, 337, 338, 339, 340, 341, 342, 343, 344, 345, 346, 347, 348, 349, 350, 50, 541, 542, 543, 544, 570, 571, 572, 573, 574, 575, 577, 578, 579, 580, 581, 582, 583, 576] (by decide +kernel) (by decide +kernel)) (goodIn_sub (fun _ h => List.mem_append_left _ (List.mem_append_left _ (List.mem_append_right _ h))) (by decide +kernel))
set_option maxRecDepth 20000 in
theorem gL_law_L_find : GoodIn wsL_law (va_wsS RL 80 yL_find wsL_find) := goodIn_app (goodIn_of _ (by decide +kernel)) ggL_law_L_find
set_option maxRecDepth 20000 in
theorem ggL_law_X6_find : GoodIn wsL_law wsX6_find := goodIn_r _ [354, 78, 79, 355, 356, 75, 357, 122, 123, 124, 5, 125, 126, 84, 85, 86, 87, 71, 69, 72, 70, 73, 74, 88, 89, 90, 91, 92, 93, 94, 95, 96, 97, 98, 99, 358, 359, 360, 361, 76, 77, 362, 363, 364, 365, 366, 367, 368, 369, 370, 371, 66, 82, 67, 372, 373, 374, 375, 68, 376, 377, 378, 379, 380, 381, 382, 383, 384, 385, 386, 387, 388, 389, 390, 391, 392, 393, 394, 395, 396, 397, 398, 399, 400, 401, 402, 403, 404, 405, 406, 407, 408, 409, 410, 411, 412, 413, 414, 415, 188, 416, 417, 418, 419, 420, 421, 422, 423, 424, 425, 426, 427, 80, 545, 546, 547, 548, 549, 550, 551, 552, 553, 554, 555, 556, 557, 558, 559, 560, 561, 562, 563, 564, 565, 566, 567, 568, 569] (by decide +kernel) (by decide +kernel)
set_option maxRecDepth 20000 in
theorem gL_law_X6_find : GoodIn wsL_law (wsV RL 83 RX6 yX6_find wsX6_find) := goodIn_app (goodIn_of _ (by decide +kernel)) ggL_law_X6_find
set_option maxRecDepth 20000 in
theorem ggL_law_L_act : GoodIn wsL_law wsL_act := goodIn_ca (goodIn_r _ [430, 431, 432, 433, 434, 2, 435, 436, 437, 24, 438, 439, 541, 542, 543, 544, 577, 578, 579, 580, 581, 582, 583] (by decide +kernel) (by decide +kernel)) (goodIn_sub (fun _ h => List.mem_append_left _ (List.mem_append_right _ h)) (by decide +kernel))
set_option maxRecDepth 20000 in
theorem gL_law_L_act : GoodIn wsL_law (va_wsS RL 84 yL_act wsL_act) := goodIn_app (goodIn_of _ (by decide +kernel)) ggL_law_L_act
set_option maxRecDepth 20000 in
theorem ggL_law_X6_act : GoodIn wsL_law wsX6_act := goodIn_r _ [443, 356, 80, 122, 123, 124, 5, 125, 126, 545, 546, 547, 548, 549, 550, 551, 552, 553, 554, 555, 556, 557, 558, 559, 560, 561, 562, 563, 564, 565, 566, 567, 568, 569] (by decide +kernel) (by decide +kernel)
set_option maxRecDepth 20000 in
theorem gL_law_X6_act : GoodIn wsL_law (wsV RL 86 RX6 yX6_act wsX6_act) := goodIn_app (goodIn_of _ (by decide +kernel)) ggL_law_X6_act
set_option maxRecDepth 20000 in
theorem ggL_law_L_play : GoodIn wsL_law wsL_play := goodIn_ca (goodIn_ca (goodIn_r _ [446, 104, 447, 448, 449, 450, 2, 451, 452, 453, 20, 25, 454, 109, 110, 111, 112, 113, 455, 229, 230, 19, 231, 232, 225, 226, 59, 227, 233, 234, 235, 236, 39, 237, 238, 239, 240, 241, 242, 243, 244, 245, 246, 247, 248, 168, 169, 170, 249, 250, 251, 252, 253, 254, 255, 256, 257, 258, 259, 260, 146, 147, 148, 261, 262, 263, 264, 265, 266, 145, 267, 268, 269, 270, 271, 272, 273, 274, 275, 276, 15, 277, 32, 278, 279, 280, 281, 222, 223, 224, 282, 58, 60, 61, 283, 284, 285, 286, 287, 288, 289, 290, 291, 166, 167, 144, 292, 293, 294, 295, 296, 297, 298, 299, 300, 301, 302, 303, 304, 305, 306, 307, 308, 309, 310, 142, 143, 311, 312, 313, 314, 456, 457, 458, 459, 460, 219, 220, 221, 461, 541, 542, 543, 544, 576, 570, 571, 572, 573, 574, 575] (by decide +kernel) (by decide +kernel)) (goodIn_sub (fun _ h => List.mem_append_right _ h) (by decide +kernel))) (goodIn_sub (fun _ h => List.mem_append_left _ (List.mem_append_left _ (List.mem_append_right _ h))) (by decide +kernel))
set_option maxRecDepth 20000 in
theorem gL_law_L_play : GoodIn wsL_law (va_wsS RL 87 yL_play wsL_play) := goodIn_app (goodIn_of _ (by decide +kernel)) ggL_law_L_play
set_option maxRecDepth 20000 in
theorem ggL_law_X6_play : GoodIn wsL_law wsX6_play := goodIn_r _ [465, 83, 380, 381, 382, 5, 383, 71, 98, 74, 99, 73, 72, 97, 88, 96, 90, 91, 384, 385, 386, 387, 68, 67, 388, 389, 390, 391, 66, 392, 393, 394, 395, 122, 123, 124, 125, 126, 396, 397, 398, 399, 400, 401, 402, 403, 404, 405, 406, 407, 408, 409, 410, 411, 412, 413, 414, 415, 188, 416, 417, 418, 419, 420, 421, 422, 423, 92, 93, 94, 95, 466, 467, 468, 469, 545, 546, 547, 548, 549, 550, 551, 552, 553, 554, 555, 556, 557, 558, 559, 560, 561, 562, 563, 564, 565, 566, 567, 568, 569] (by decide +kernel) (by decide +kernel)
set_option maxRecDepth 20000 in
theorem gL_law_X6_play : GoodIn wsL_law (wsV RL 89 RX6 yX6_play wsX6_play) := goodIn_app (goodIn_of _ (by decide +kernel)) ggL_law_X6_play
set_option maxRecDepth 20000 in
theorem ggL_law_X5_again : GoodIn wsL_law wsX5_again := goodIn_r _ [473, 16, 25, 20, 53, 54, 55, 15, 56, 34, 33, 57, 58, 59, 60, 61, 456, 457, 458, 19, 459, 232, 460, 219, 220, 221, 222, 223, 224, 225, 226, 227, 461, 229, 230, 231, 233, 234, 235, 236, 39, 237, 238, 239, 240, 241, 242, 243, 244, 245, 246, 247, 248, 168, 169, 170, 249, 250, 251, 252, 253, 254, 255, 256, 257, 258, 259, 260, 146, 147, 148, 261, 262, 263, 264, 265, 266, 145, 267, 268, 269, 270, 271, 272, 273, 274, 275, 276, 277, 32, 278, 279, 280, 281, 282, 283, 284, 285, 286, 287, 288, 289, 290, 291, 166, 167, 144, 292, 293, 294, 295, 296, 297, 298, 299, 300, 301, 302, 303, 304, 305, 306, 307, 308, 309, 310, 142, 143, 311, 312, 313, 314, 541, 542, 543, 544, 570, 571, 572, 573, 574, 575, 576] (by decide +kernel) (by decide +kernel)
set_option maxRecDepth 20000 in
theorem gL_law_X5_again : GoodIn wsL_law (wsV RL 90 RX5 yX5_again wsX5_again) := goodIn_app (goodIn_of _ (by decide +kernel)) ggL_law_X5_again
set_option maxRecDepth 20000 in
theorem ggL_law_X6_again : GoodIn wsL_law wsX6_again := goodIn_r _ [477, 126, 83, 84, 85, 86, 5, 87, 71, 69, 72, 70, 73, 74, 88, 89, 90, 91, 92, 93, 94, 95, 96, 97, 98, 99, 466, 467, 468, 469, 384, 385, 386, 387, 68, 67, 388, 389, 390, 391, 66, 392, 393, 394, 395, 545, 546, 547, 548, 549, 550, 551, 552, 553, 554, 555, 556, 557, 558, 559, 560, 561, 562, 563, 564, 565, 566, 567, 568, 569] (by decide +kernel) (by decide +kernel)
set_option maxRecDepth 20000 in
theorem gL_law_X6_again : GoodIn wsL_law (wsV RL 93 RX6 yX6_again wsX6_again) := goodIn_app (goodIn_of _ (by decide +kernel)) ggL_law_X6_again
set_option maxRecDepth 20000 in
theorem ggL_law_L_broken : GoodIn wsL_law wsL_broken := goodIn_ca (goodIn_r _ [480, 104, 481, 482, 483, 2, 484, 25, 109, 110, 111, 112, 113, 485, 316, 317, 318, 319, 226, 59, 227, 320, 321, 322, 323, 324, 325, 326, 327, 328, 329, 330, 331, 332, 333, 334, 335, 272, 273, 336, 337, 338, 339, 340, 341, 342, 343, 344, 345, 346, 541, 542, 543, 544] (by decide +kernel) (by decide +kernel)) (goodIn_sub (fun _ h => List.mem_append_left _ (List.mem_append_left _ (List.mem_append_right _ h))) (by decide +kernel))
set_option maxRecDepth 20000 in
theorem gL_law_L_broken : GoodIn wsL_law (va_wsS RL 94 yL_broken wsL_broken) := goodIn_app (goodIn_of _ (by decide +kernel)) ggL_law_L_broken
set_option maxRecDepth 20000 in
theorem ggL_law_X6_broken : GoodIn wsL_law wsX6_broken := goodIn_r _ [489, 83, 122, 123, 124, 5, 125, 126, 380, 381, 382, 383, 71, 98, 74, 99, 73, 72, 97, 88, 96, 90, 91, 368, 369, 370, 371, 66, 82, 67, 372, 373, 374, 375, 68, 376, 377, 378, 379, 545, 546, 547, 548, 549, 550, 551, 552, 553, 554, 555, 556, 557, 558, 559, 560, 561, 562, 563, 564, 565, 566, 567, 568, 569] (by decide +kernel) (by decide +kernel)
set_option maxRecDepth 20000 in
theorem gL_law_X6_broken : GoodIn wsL_law (wsV RL 96 RX6 yX6_broken wsX6_broken) := goodIn_app (goodIn_of _ (by decide +kernel)) ggL_law_X6_broken
set_option maxRecDepth 20000 in
theorem ggL_law_L_colour : GoodIn wsL_law wsL_colour := goodIn_ca (goodIn_r _ [492, 104, 493, 494, 495, 2, 496, 16, 138, 25, 109, 110, 111, 112, 113, 497, 301, 59, 302, 498, 304, 305, 306, 250, 251, 541, 542, 543, 544, 570, 571, 572, 573, 574, 575] (by decide +kernel) (by decide +kernel)) (goodIn_sub (fun _ h => List.mem_append_left _ (List.mem_append_left _ (List.mem_append_right _ h))) (by decide +kernel))
set_option maxRecDepth 20000 in
theorem gL_law_L_colour : GoodIn wsL_law (va_wsS RL 97 yL_colour wsL_colour) := goodIn_app (goodIn_of _ (by decide +kernel)) ggL_law_L_colour
set_option maxRecDepth 20000 in
theorem ggL_law_X6_colour : GoodIn wsL_law wsX6_colour := goodIn_r _ [502, 66, 83, 73, 122, 123, 124, 5, 125, 126, 380, 381, 382, 383, 71, 98, 74, 99, 72, 97, 88, 96, 90, 91, 545, 546, 547, 548, 549, 550, 551, 552, 553, 554, 555, 556, 557, 558, 559, 560, 561, 562, 563, 564, 565, 566, 567, 568, 569] (by decide +kernel) (by decide +kernel)
set_option maxRecDepth 20000 in
theorem gL_law_X6_colour : GoodIn wsL_law (wsV RL 99 RX6 yX6_colour wsX6_colour) := goodIn_app (goodIn_of _ (by decide +kernel)) ggL_law_X6_colour
set_option maxRecDepth 20000 in
theorem ggL_law_L_field : GoodIn wsL_law wsL_field := goodIn_ca (goodIn_r _ [505, 104, 506, 507, 508, 2, 509, 16, 138, 139, 25, 109, 110, 111, 112, 113, 510, 259, 59, 260, 146, 147, 148, 541, 542, 543, 544, 570, 571, 572, 573, 574, 575] (by decide +kernel) (by decide +kernel)) (goodIn_sub (fun _ h => List.mem_append_left _ (List.mem_append_left _ (List.mem_append_right _ h))) (by decide +kernel))
set_option maxRecDepth 20000 in
theorem gL_law_L_field : GoodIn wsL_law (va_wsS RL 100 yL_field wsL_field) := goodIn_app (goodIn_of _ (by decide +kernel)) ggL_law_L_field
set_option maxRecDepth 20000 in
theorem ggL_law_X6_field : GoodIn wsL_law wsX6_field := goodIn_r _ [514, 66, 67, 83, 71, 122, 123, 124, 5, 125, 126, 380, 381, 382, 383, 98, 74, 99, 73, 72, 97, 88, 96, 90, 91, 545, 546, 547, 548, 549, 550, 551, 552, 553, 554, 555, 556, 557, 558, 559, 560, 561, 562, 563, 564, 565, 566, 567, 568, 569] (by decide +kernel) (by decide +kernel)
set_option maxRecDepth 20000 in
theorem gL_law_X6_field : GoodIn wsL_law (wsV RL 103 RX6 yX6_field wsX6_field) := goodIn_app (goodIn_of _ (by decide +kernel)) ggL_law_X6_field
set_option maxRecDepth 20000 in
theorem ggL_law_L_has : GoodIn wsL_law wsL_has := goodIn_ca (goodIn_r _ [517, 104, 518, 519, 520, 2, 521, 16, 164, 25, 109, 110, 111, 112, 113, 522, 247, 59, 248, 168, 169, 170, 541, 542, 543, 544, 570, 571, 572, 573, 574, 575] (by decide +kernel) (by decide +kernel)) (goodIn_sub (fun _ h => List.mem_append_left _ (List.mem_append_left _ (List.mem_append_right _ h))) (by decide +kernel))
set_option maxRecDepth 20000 in
theorem gL_law_L_has : GoodIn wsL_law (va_wsS RL 104 yL_has wsL_has) := goodIn_app (goodIn_of _ (by decide +kernel)) ggL_law_L_has
set_option maxRecDepth 20000 in
theorem ggL_law_X6_has : GoodIn wsL_law wsX6_has := goodIn_r _ [526, 68, 83, 72, 122, 123, 124, 5, 125, 126, 380, 381, 382, 383, 71, 98, 74, 99, 73, 97, 88, 96, 90, 91, 545, 546, 547, 548, 549, 550, 551, 552, 553, 554, 555, 556, 557, 558, 559, 560, 561, 562, 563, 564, 565, 566, 567, 568, 569] (by decide +kernel) (by decide +kernel)
set_option maxRecDepth 20000 in
theorem gL_law_X6_has : GoodIn wsL_law (wsV RL 106 RX6 yX6_has wsX6_has) := goodIn_app (goodIn_of _ (by decide +kernel)) ggL_law_X6_has
set_option maxRecDepth 20000 in
theorem ggL_law_L_count : GoodIn wsL_law wsL_count := goodIn_ca (goodIn_r _ [529, 104, 530, 531, 532, 2, 533, 16, 138, 139, 164, 182, 183, 24, 534, 438, 25, 109, 110, 111, 112, 113, 535, 226, 59, 227, 536, 223, 224, 541, 542, 543, 544, 570, 571, 572, 573, 574, 575, 577, 578, 579, 580, 581, 582, 583] (by decide +kernel) (by decide +kernel)) (goodIn_sub (fun _ h => List.mem_append_left _ (List.mem_append_left _ (List.mem_append_right _ h))) (by decide +kernel))
set_option maxRecDepth 20000 in
theorem gL_law_L_count : GoodIn wsL_law (va_wsS RL 107 yL_count wsL_count) := goodIn_app (goodIn_of _ (by decide +kernel)) ggL_law_L_count
set_option maxRecDepth 20000 in
theorem ggL_law_X6_count : GoodIn wsL_law wsX6_count := goodIn_r _ [540, 83, 66, 67, 68, 188, 89, 357, 356, 91, 90, 122, 123, 124, 5, 125, 126, 380, 381, 382, 383, 71, 98, 74, 99, 73, 72, 97, 88, 96, 545, 546, 547, 548, 549, 550, 551, 552, 553, 554, 555, 556, 557, 558, 559, 560, 561, 562, 563, 564, 565, 566, 567, 568, 569] (by decide +kernel) (by decide +kernel)
set_option maxRecDepth 20000 in
theorem gL_law_X6_count : GoodIn wsL_law (wsV RL 109 RX6 yX6_count wsX6_count) := goodIn_app (goodIn_of _ (by decide +kernel)) ggL_law_X6_count
theorem dL_law_0 : decode cL_law 0 = .ok (.new 8, 3) := by decide +kernel
theorem dL_law_3 : decode cL_law 3 = .ok (.dup, 1) := by decide +kernel
theorem dL_law_4 : decode cL_law 4 = .ok (.invokespecial 56, 3) := by decide +kernel
theorem dL_law_7 : decode cL_law 7 = .ok (.astore_n 1, 1) := by decide +kernel
theorem dL_law_8 : decode cL_law 8 = .ok (.new 57, 3) := by decide +kernel
theorem dL_law_11 : decode cL_law 11 = .ok (.dup, 1) := by decide +kernel
theorem dL_law_12 : decode cL_law 12 = .ok (.invokespecial 59, 3) := by decide +kernel
theorem dL_law_15 : decode cL_law 15 = .ok (.astore_n 2, 1) := by decide +kernel
theorem dL_law_16 : decode cL_law 16 = .ok (.iconst 1, 1) := by decide +kernel
theorem dL_law_17 : decode cL_law 17 = .ok (.newarray .long, 2) := by decide +kernel
theorem dL_law_19 : decode cL_law 19 = .ok (.astore_n 3, 1) := by decide +kernel
theorem dL_law_20 : decode cL_law 20 = .ok (.iconst 0, 1) := by decide +kernel
theorem dL_law_21 : decode cL_law 21 = .ok (.istore 4, 2) := by decide +kernel
theorem dL_law_23 : decode cL_law 23 = .ok (.iload 4, 2) := by decide +kernel
theorem dL_law_25 : decode cL_law 25 = .ok (.aload_n 0, 1) := by decide +kernel
theorem dL_law_26 : decode cL_law 26 = .ok (.arraylength, 1) := by decide +kernel
theorem dL_law_27 : decode cL_law 27 = .ok (.iconst 4, 1) := by decide +kernel
theorem dL_law_28 : decode cL_law 28 = .ok (.isub, 1) := by decide +kernel
theorem dL_law_29 : decode cL_law 29 = .ok (.if_icmp .gt 777, 3) := by decide +kernel
theorem dL_law_32 : decode cL_law 32 = .ok (.aload_n 0, 1) := by decide +kernel
theorem dL_law_33 : decode cL_law 33 = .ok (.iload 4, 2) := by decide +kernel
theorem dL_law_35 : decode cL_law 35 = .ok (.iaload, 1) := by decide +kernel
theorem dL_law_36 : decode cL_law 36 = .ok (.bipush 15, 2) := by decide +kernel
theorem dL_law_38 : decode cL_law 38 = .ok (.iand, 1) := by decide +kernel
theorem dL_law_39 : decode cL_law 39 = .ok (.tableswitch 761 0 12 #[65, 125, 185, 233, 281, 337, 393, 449, 462, 525, 581, 649, 705], 65) := by decide +kernel
theorem dL_law_104 : decode cL_law 104 = .ok (.aload_n 1, 1) := by decide +kernel
theorem dL_law_105 : decode cL_law 105 = .ok (.aload_n 0, 1) := by decide +kernel
theorem dL_law_106 : decode cL_law 106 = .ok (.iload 4, 2) := by decide +kernel
theorem dL_law_108 : decode cL_law 108 = .ok (.iconst 1, 1) := by decide +kernel
theorem dL_law_109 : decode cL_law 109 = .ok (.iadd, 1) := by decide +kernel
theorem dL_law_110 : decode cL_law 110 = .ok (.iaload, 1) := by decide +kernel
theorem dL_law_111 : decode cL_law 111 = .ok (.aload_n 0, 1) := by decide +kernel
theorem dL_law_112 : decode cL_law 112 = .ok (.iload 4, 2) := by decide +kernel
theorem dL_law_114 : decode cL_law 114 = .ok (.iconst 2, 1) := by decide +kernel
theorem dL_law_115 : decode cL_law 115 = .ok (.iadd, 1) := by decide +kernel
theorem dL_law_116 : decode cL_law 116 = .ok (.iaload, 1) := by decide +kernel
theorem dL_law_117 : decode cL_law 117 = .ok (.aload_n 0, 1) := by decide +kernel
theorem dL_law_118 : decode cL_law 118 = .ok (.iload 4, 2) := by decide +kernel
theorem dL_law_120 : decode cL_law 120 = .ok (.iconst 3, 1) := by decide +kernel
theorem dL_law_121 : decode cL_law 121 = .ok (.iadd, 1) := by decide +kernel
theorem dL_law_122 : decode cL_law 122 = .ok (.iaload, 1) := by decide +kernel
theorem dL_law_123 : decode cL_law 123 = .ok (.invokestatic 60, 3) := by decide +kernel
theorem dL_law_126 : decode cL_law 126 = .ok (.istore 5, 2) := by decide +kernel
theorem dL_law_128 : decode cL_law 128 = .ok (.aload_n 2, 1) := by decide +kernel
theorem dL_law_129 : decode cL_law 129 = .ok (.aload_n 0, 1) := by decide +kernel
theorem dL_law_130 : decode cL_law 130 = .ok (.iload 4, 2) := by decide +kernel
theorem dL_law_132 : decode cL_law 132 = .ok (.iconst 1, 1) := by decide +kernel
theorem dL_law_133 : decode cL_law 133 = .ok (.iadd, 1) := by decide +kernel
theorem dL_law_134 : decode cL_law 134 = .ok (.iaload, 1) := by decide +kernel
theorem dL_law_135 : decode cL_law 135 = .ok (.aload_n 0, 1) := by decide +kernel
theorem dL_law_136 : decode cL_law 136 = .ok (.iload 4, 2) := by decide +kernel
theorem dL_law_138 : decode cL_law 138 = .ok (.iconst 2, 1) := by decide +kernel
theorem dL_law_139 : decode cL_law 139 = .ok (.iadd, 1) := by decide +kernel
theorem dL_law_140 : decode cL_law 140 = .ok (.iaload, 1) := by decide +kernel
theorem dL_law_141 : decode cL_law 141 = .ok (.aload_n 0, 1) := by decide +kernel
theorem dL_law_142 : decode cL_law 142 = .ok (.iload 4, 2) := by decide +kernel
theorem dL_law_144 : decode cL_law 144 = .ok (.iconst 3, 1) := by decide +kernel
theorem dL_law_145 : decode cL_law 145 = .ok (.iadd, 1) := by decide +kernel
theorem dL_law_146 : decode cL_law 146 = .ok (.iaload, 1) := by decide +kernel
theorem dL_law_147 : decode cL_law 147 = .ok (.invokevirtual 65, 3) := by decide +kernel
theorem dL_law_150 : decode cL_law 150 = .ok (.aload_n 2, 1) := by decide +kernel
theorem dL_law_151 : decode cL_law 151 = .ok (.invokevirtual 66, 3) := by decide +kernel
theorem dL_law_154 : decode cL_law 154 = .ok (.iload 5, 2) := by decide +kernel
theorem dL_law_156 : decode cL_law 156 = .ok (.if_icmp .eq 5, 3) := by decide +kernel
theorem dL_law_159 : decode cL_law 159 = .ok (.iconst 0, 1) := by decide +kernel
theorem dL_law_160 : decode cL_law 160 = .ok (.ireturn, 1) := by decide +kernel
theorem dL_law_161 : decode cL_law 161 = .ok (.goto 639, 3) := by decide +kernel
theorem dL_law_164 : decode cL_law 164 = .ok (.aload_n 1, 1) := by decide +kernel
theorem dL_law_165 : decode cL_law 165 = .ok (.aload_n 0, 1) := by decide +kernel
theorem dL_law_166 : decode cL_law 166 = .ok (.iload 4, 2) := by decide +kernel
theorem dL_law_168 : decode cL_law 168 = .ok (.iconst 1, 1) := by decide +kernel
theorem dL_law_169 : decode cL_law 169 = .ok (.iadd, 1) := by decide +kernel
theorem dL_law_170 : decode cL_law 170 = .ok (.iaload, 1) := by decide +kernel
theorem dL_law_171 : decode cL_law 171 = .ok (.aload_n 0, 1) := by decide +kernel
theorem dL_law_172 : decode cL_law 172 = .ok (.iload 4, 2) := by decide +kernel
theorem dL_law_174 : decode cL_law 174 = .ok (.iconst 2, 1) := by decide +kernel
theorem dL_law_175 : decode cL_law 175 = .ok (.iadd, 1) := by decide +kernel
theorem dL_law_176 : decode cL_law 176 = .ok (.iaload, 1) := by decide +kernel
theorem dL_law_177 : decode cL_law 177 = .ok (.aload_n 0, 1) := by decide +kernel
theorem dL_law_178 : decode cL_law 178 = .ok (.iload 4, 2) := by decide +kernel
theorem dL_law_180 : decode cL_law 180 = .ok (.iconst 3, 1) := by decide +kernel
theorem dL_law_181 : decode cL_law 181 = .ok (.iadd, 1) := by decide +kernel
theorem dL_law_182 : decode cL_law 182 = .ok (.iaload, 1) := by decide +kernel
theorem dL_law_183 : decode cL_law 183 = .ok (.invokestatic 70, 3) := by decide +kernel
theorem dL_law_186 : decode cL_law 186 = .ok (.istore 5, 2) := by decide +kernel
theorem dL_law_188 : decode cL_law 188 = .ok (.aload_n 2, 1) := by decide +kernel
theorem dL_law_189 : decode cL_law 189 = .ok (.aload_n 0, 1) := by decide +kernel
theorem dL_law_190 : decode cL_law 190 = .ok (.iload 4, 2) := by decide +kernel
theorem dL_law_192 : decode cL_law 192 = .ok (.iconst 1, 1) := by decide +kernel
theorem dL_law_193 : decode cL_law 193 = .ok (.iadd, 1) := by decide +kernel
theorem dL_law_194 : decode cL_law 194 = .ok (.iaload, 1) := by decide +kernel
theorem dL_law_195 : decode cL_law 195 = .ok (.aload_n 0, 1) := by decide +kernel
theorem dL_law_196 : decode cL_law 196 = .ok (.iload 4, 2) := by decide +kernel
theorem dL_law_198 : decode cL_law 198 = .ok (.iconst 2, 1) := by decide +kernel
theorem dL_law_199 : decode cL_law 199 = .ok (.iadd, 1) := by decide +kernel
theorem dL_law_200 : decode cL_law 200 = .ok (.iaload, 1) := by decide +kernel
theorem dL_law_201 : decode cL_law 201 = .ok (.aload_n 0, 1) := by decide +kernel
theorem dL_law_202 : decode cL_law 202 = .ok (.iload 4, 2) := by decide +kernel
theorem dL_law_204 : decode cL_law 204 = .ok (.iconst 3, 1) := by decide +kernel
theorem dL_law_205 : decode cL_law 205 = .ok (.iadd, 1) := by decide +kernel
theorem dL_law_206 : decode cL_law 206 = .ok (.iaload, 1) := by decide +kernel
theorem dL_law_207 : decode cL_law 207 = .ok (.invokevirtual 72, 3) := by decide +kernel
theorem dL_law_210 : decode cL_law 210 = .ok (.aload_n 2, 1) := by decide +kernel
theorem dL_law_211 : decode cL_law 211 = .ok (.invokevirtual 66, 3) := by decide +kernel
theorem dL_law_214 : decode cL_law 214 = .ok (.iload 5, 2) := by decide +kernel
theorem dL_law_216 : decode cL_law 216 = .ok (.if_icmp .eq 5, 3) := by decide +kernel
theorem dL_law_219 : decode cL_law 219 = .ok (.iconst 0, 1) := by decide +kernel
theorem dL_law_220 : decode cL_law 220 = .ok (.ireturn, 1) := by decide +kernel
theorem dL_law_221 : decode cL_law 221 = .ok (.goto 579, 3) := by decide +kernel
theorem dL_law_224 : decode cL_law 224 = .ok (.aload_n 1, 1) := by decide +kernel
theorem dL_law_225 : decode cL_law 225 = .ok (.aload_n 0, 1) := by decide +kernel
theorem dL_law_226 : decode cL_law 226 = .ok (.iload 4, 2) := by decide +kernel
theorem dL_law_228 : decode cL_law 228 = .ok (.iconst 1, 1) := by decide +kernel
theorem dL_law_229 : decode cL_law 229 = .ok (.iadd, 1) := by decide +kernel
theorem dL_law_230 : decode cL_law 230 = .ok (.iaload, 1) := by decide +kernel
theorem dL_law_231 : decode cL_law 231 = .ok (.aload_n 0, 1) := by decide +kernel
theorem dL_law_232 : decode cL_law 232 = .ok (.iload 4, 2) := by decide +kernel
theorem dL_law_234 : decode cL_law 234 = .ok (.iconst 2, 1) := by decide +kernel
theorem dL_law_235 : decode cL_law 235 = .ok (.iadd, 1) := by decide +kernel
theorem dL_law_236 : decode cL_law 236 = .ok (.iaload, 1) := by decide +kernel
theorem dL_law_237 : decode cL_law 237 = .ok (.invokestatic 73, 3) := by decide +kernel
theorem dL_law_240 : decode cL_law 240 = .ok (.istore 5, 2) := by decide +kernel
theorem dL_law_242 : decode cL_law 242 = .ok (.aload_n 2, 1) := by decide +kernel
theorem dL_law_243 : decode cL_law 243 = .ok (.aload_n 0, 1) := by decide +kernel
theorem dL_law_244 : decode cL_law 244 = .ok (.iload 4, 2) := by decide +kernel
theorem dL_law_246 : decode cL_law 246 = .ok (.iconst 1, 1) := by decide +kernel
theorem dL_law_247 : decode cL_law 247 = .ok (.iadd, 1) := by decide +kernel
theorem dL_law_248 : decode cL_law 248 = .ok (.iaload, 1) := by decide +kernel
theorem dL_law_249 : decode cL_law 249 = .ok (.aload_n 0, 1) := by decide +kernel
theorem dL_law_250 : decode cL_law 250 = .ok (.iload 4, 2) := by decide +kernel
theorem dL_law_252 : decode cL_law 252 = .ok (.iconst 2, 1) := by decide +kernel
theorem dL_law_253 : decode cL_law 253 = .ok (.iadd, 1) := by decide +kernel
theorem dL_law_254 : decode cL_law 254 = .ok (.iaload, 1) := by decide +kernel
theorem dL_law_255 : decode cL_law 255 = .ok (.invokevirtual 76, 3) := by decide +kernel
theorem dL_law_258 : decode cL_law 258 = .ok (.aload_n 2, 1) := by decide +kernel
theorem dL_law_259 : decode cL_law 259 = .ok (.invokevirtual 66, 3) := by decide +kernel
theorem dL_law_262 : decode cL_law 262 = .ok (.iload 5, 2) := by decide +kernel
theorem dL_law_264 : decode cL_law 264 = .ok (.if_icmp .eq 5, 3) := by decide +kernel
theorem dL_law_267 : decode cL_law 267 = .ok (.iconst 0, 1) := by decide +kernel
theorem dL_law_268 : decode cL_law 268 = .ok (.ireturn, 1) := by decide +kernel
theorem dL_law_269 : decode cL_law 269 = .ok (.goto 531, 3) := by decide +kernel
theorem dL_law_272 : decode cL_law 272 = .ok (.aload_n 1, 1) := by decide +kernel
theorem dL_law_273 : decode cL_law 273 = .ok (.aload_n 0, 1) := by decide +kernel
theorem dL_law_274 : decode cL_law 274 = .ok (.iload 4, 2) := by decide +kernel
theorem dL_law_276 : decode cL_law 276 = .ok (.iconst 1, 1) := by decide +kernel
theorem dL_law_277 : decode cL_law 277 = .ok (.iadd, 1) := by decide +kernel
theorem dL_law_278 : decode cL_law 278 = .ok (.iaload, 1) := by decide +kernel
theorem dL_law_279 : decode cL_law 279 = .ok (.aload_n 0, 1) := by decide +kernel
theorem dL_law_280 : decode cL_law 280 = .ok (.iload 4, 2) := by decide +kernel
theorem dL_law_282 : decode cL_law 282 = .ok (.iconst 2, 1) := by decide +kernel
theorem dL_law_283 : decode cL_law 283 = .ok (.iadd, 1) := by decide +kernel
theorem dL_law_284 : decode cL_law 284 = .ok (.iaload, 1) := by decide +kernel
theorem dL_law_285 : decode cL_law 285 = .ok (.invokestatic 77, 3) := by decide +kernel
theorem dL_law_288 : decode cL_law 288 = .ok (.istore 5, 2) := by decide +kernel
theorem dL_law_290 : decode cL_law 290 = .ok (.aload_n 2, 1) := by decide +kernel
theorem dL_law_291 : decode cL_law 291 = .ok (.aload_n 0, 1) := by decide +kernel
theorem dL_law_292 : decode cL_law 292 = .ok (.iload 4, 2) := by decide +kernel
theorem dL_law_294 : decode cL_law 294 = .ok (.iconst 1, 1) := by decide +kernel
theorem dL_law_295 : decode cL_law 295 = .ok (.iadd, 1) := by decide +kernel
theorem dL_law_296 : decode cL_law 296 = .ok (.iaload, 1) := by decide +kernel
theorem dL_law_297 : decode cL_law 297 = .ok (.aload_n 0, 1) := by decide +kernel
theorem dL_law_298 : decode cL_law 298 = .ok (.iload 4, 2) := by decide +kernel
theorem dL_law_300 : decode cL_law 300 = .ok (.iconst 2, 1) := by decide +kernel
theorem dL_law_301 : decode cL_law 301 = .ok (.iadd, 1) := by decide +kernel
theorem dL_law_302 : decode cL_law 302 = .ok (.iaload, 1) := by decide +kernel
theorem dL_law_303 : decode cL_law 303 = .ok (.invokevirtual 79, 3) := by decide +kernel
theorem dL_law_306 : decode cL_law 306 = .ok (.aload_n 2, 1) := by decide +kernel
theorem dL_law_307 : decode cL_law 307 = .ok (.invokevirtual 66, 3) := by decide +kernel
theorem dL_law_310 : decode cL_law 310 = .ok (.iload 5, 2) := by decide +kernel
theorem dL_law_312 : decode cL_law 312 = .ok (.if_icmp .eq 5, 3) := by decide +kernel
theorem dL_law_315 : decode cL_law 315 = .ok (.iconst 0, 1) := by decide +kernel
theorem dL_law_316 : decode cL_law 316 = .ok (.ireturn, 1) := by decide +kernel
theorem dL_law_317 : decode cL_law 317 = .ok (.goto 483, 3) := by decide +kernel
theorem dL_law_320 : decode cL_law 320 = .ok (.aload_n 1, 1) := by decide +kernel
theorem dL_law_321 : decode cL_law 321 = .ok (.aload_n 0, 1) := by decide +kernel
theorem dL_law_322 : decode cL_law 322 = .ok (.iload 4, 2) := by decide +kernel
theorem dL_law_324 : decode cL_law 324 = .ok (.iconst 1, 1) := by decide +kernel
theorem dL_law_325 : decode cL_law 325 = .ok (.iadd, 1) := by decide +kernel
theorem dL_law_326 : decode cL_law 326 = .ok (.iaload, 1) := by decide +kernel
theorem dL_law_327 : decode cL_law 327 = .ok (.aload_n 3, 1) := by decide +kernel
theorem dL_law_328 : decode cL_law 328 = .ok (.invokestatic 80, 3) := by decide +kernel
theorem dL_law_331 : decode cL_law 331 = .ok (.istore 5, 2) := by decide +kernel
theorem dL_law_333 : decode cL_law 333 = .ok (.aload_n 2, 1) := by decide +kernel
theorem dL_law_334 : decode cL_law 334 = .ok (.aload_n 0, 1) := by decide +kernel
theorem dL_law_335 : decode cL_law 335 = .ok (.iload 4, 2) := by decide +kernel
theorem dL_law_337 : decode cL_law 337 = .ok (.iconst 1, 1) := by decide +kernel
theorem dL_law_338 : decode cL_law 338 = .ok (.iadd, 1) := by decide +kernel
theorem dL_law_339 : decode cL_law 339 = .ok (.iaload, 1) := by decide +kernel
theorem dL_law_340 : decode cL_law 340 = .ok (.invokevirtual 83, 3) := by decide +kernel
theorem dL_law_343 : decode cL_law 343 = .ok (.istore 6, 2) := by decide +kernel
theorem dL_law_345 : decode cL_law 345 = .ok (.aload_n 2, 1) := by decide +kernel
theorem dL_law_346 : decode cL_law 346 = .ok (.invokevirtual 66, 3) := by decide +kernel
theorem dL_law_349 : decode cL_law 349 = .ok (.iload 5, 2) := by decide +kernel
theorem dL_law_351 : decode cL_law 351 = .ok (.if_icmp .eq 5, 3) := by decide +kernel
theorem dL_law_354 : decode cL_law 354 = .ok (.iconst 0, 1) := by decide +kernel
theorem dL_law_355 : decode cL_law 355 = .ok (.ireturn, 1) := by decide +kernel
theorem dL_law_356 : decode cL_law 356 = .ok (.iload 5, 2) := by decide +kernel
theorem dL_law_358 : decode cL_law 358 = .ok (.ifCond .ne 15, 3) := by decide +kernel
theorem dL_law_361 : decode cL_law 361 = .ok (.aload_n 3, 1) := by decide +kernel
theorem dL_law_362 : decode cL_law 362 = .ok (.iconst 0, 1) := by decide +kernel
theorem dL_law_363 : decode cL_law 363 = .ok (.laload, 1) := by decide +kernel
theorem dL_law_364 : decode cL_law 364 = .ok (.iload 6, 2) := by decide +kernel
theorem dL_law_366 : decode cL_law 366 = .ok (.i2l, 1) := by decide +kernel
theorem dL_law_367 : decode cL_law 367 = .ok (.lcmp, 1) := by decide +kernel
theorem dL_law_368 : decode cL_law 368 = .ok (.ifCond .eq 5, 3) := by decide +kernel
theorem dL_law_371 : decode cL_law 371 = .ok (.iconst 0, 1) := by decide +kernel
theorem dL_law_372 : decode cL_law 372 = .ok (.ireturn, 1) := by decide +kernel
theorem dL_law_373 : decode cL_law 373 = .ok (.goto 427, 3) := by decide +kernel
theorem dL_law_376 : decode cL_law 376 = .ok (.aload_n 1, 1) := by decide +kernel
theorem dL_law_377 : decode cL_law 377 = .ok (.aload_n 0, 1) := by decide +kernel
theorem dL_law_378 : decode cL_law 378 = .ok (.iload 4, 2) := by decide +kernel
theorem dL_law_380 : decode cL_law 380 = .ok (.iconst 1, 1) := by decide +kernel
theorem dL_law_381 : decode cL_law 381 = .ok (.iadd, 1) := by decide +kernel
theorem dL_law_382 : decode cL_law 382 = .ok (.iaload, 1) := by decide +kernel
theorem dL_law_383 : decode cL_law 383 = .ok (.aload_n 3, 1) := by decide +kernel
theorem dL_law_384 : decode cL_law 384 = .ok (.invokestatic 84, 3) := by decide +kernel
theorem dL_law_387 : decode cL_law 387 = .ok (.istore 5, 2) := by decide +kernel
theorem dL_law_389 : decode cL_law 389 = .ok (.aload_n 2, 1) := by decide +kernel
theorem dL_law_390 : decode cL_law 390 = .ok (.aload_n 0, 1) := by decide +kernel
theorem dL_law_391 : decode cL_law 391 = .ok (.iload 4, 2) := by decide +kernel
theorem dL_law_393 : decode cL_law 393 = .ok (.iconst 1, 1) := by decide +kernel
theorem dL_law_394 : decode cL_law 394 = .ok (.iadd, 1) := by decide +kernel
theorem dL_law_395 : decode cL_law 395 = .ok (.iaload, 1) := by decide +kernel
theorem dL_law_396 : decode cL_law 396 = .ok (.invokevirtual 86, 3) := by decide +kernel
theorem dL_law_399 : decode cL_law 399 = .ok (.istore 6, 2) := by decide +kernel
theorem dL_law_401 : decode cL_law 401 = .ok (.aload_n 2, 1) := by decide +kernel
theorem dL_law_402 : decode cL_law 402 = .ok (.invokevirtual 66, 3) := by decide +kernel
theorem dL_law_405 : decode cL_law 405 = .ok (.iload 5, 2) := by decide +kernel
theorem dL_law_407 : decode cL_law 407 = .ok (.if_icmp .eq 5, 3) := by decide +kernel
theorem dL_law_410 : decode cL_law 410 = .ok (.iconst 0, 1) := by decide +kernel
theorem dL_law_411 : decode cL_law 411 = .ok (.ireturn, 1) := by decide +kernel
theorem dL_law_412 : decode cL_law 412 = .ok (.iload 5, 2) := by decide +kernel
theorem dL_law_414 : decode cL_law 414 = .ok (.ifCond .ne 15, 3) := by decide +kernel
theorem dL_law_417 : decode cL_law 417 = .ok (.aload_n 3, 1) := by decide +kernel
theorem dL_law_418 : decode cL_law 418 = .ok (.iconst 0, 1) := by decide +kernel
theorem dL_law_419 : decode cL_law 419 = .ok (.laload, 1) := by decide +kernel
theorem dL_law_420 : decode cL_law 420 = .ok (.iload 6, 2) := by decide +kernel
theorem dL_law_422 : decode cL_law 422 = .ok (.i2l, 1) := by decide +kernel
theorem dL_law_423 : decode cL_law 423 = .ok (.lcmp, 1) := by decide +kernel
theorem dL_law_424 : decode cL_law 424 = .ok (.ifCond .eq 5, 3) := by decide +kernel
theorem dL_law_427 : decode cL_law 427 = .ok (.iconst 0, 1) := by decide +kernel
theorem dL_law_428 : decode cL_law 428 = .ok (.ireturn, 1) := by decide +kernel
theorem dL_law_429 : decode cL_law 429 = .ok (.goto 371, 3) := by decide +kernel
theorem dL_law_432 : decode cL_law 432 = .ok (.aload_n 1, 1) := by decide +kernel
theorem dL_law_433 : decode cL_law 433 = .ok (.aload_n 0, 1) := by decide +kernel
theorem dL_law_434 : decode cL_law 434 = .ok (.iload 4, 2) := by decide +kernel
theorem dL_law_436 : decode cL_law 436 = .ok (.iconst 1, 1) := by decide +kernel
theorem dL_law_437 : decode cL_law 437 = .ok (.iadd, 1) := by decide +kernel
theorem dL_law_438 : decode cL_law 438 = .ok (.iaload, 1) := by decide +kernel
theorem dL_law_439 : decode cL_law 439 = .ok (.aload_n 3, 1) := by decide +kernel
theorem dL_law_440 : decode cL_law 440 = .ok (.invokestatic 87, 3) := by decide +kernel
theorem dL_law_443 : decode cL_law 443 = .ok (.istore 5, 2) := by decide +kernel
theorem dL_law_445 : decode cL_law 445 = .ok (.aload_n 2, 1) := by decide +kernel
theorem dL_law_446 : decode cL_law 446 = .ok (.aload_n 0, 1) := by decide +kernel
theorem dL_law_447 : decode cL_law 447 = .ok (.iload 4, 2) := by decide +kernel
theorem dL_law_449 : decode cL_law 449 = .ok (.iconst 1, 1) := by decide +kernel
theorem dL_law_450 : decode cL_law 450 = .ok (.iadd, 1) := by decide +kernel
theorem dL_law_451 : decode cL_law 451 = .ok (.iaload, 1) := by decide +kernel
theorem dL_law_452 : decode cL_law 452 = .ok (.invokevirtual 89, 3) := by decide +kernel
theorem dL_law_455 : decode cL_law 455 = .ok (.istore 6, 2) := by decide +kernel
theorem dL_law_457 : decode cL_law 457 = .ok (.aload_n 2, 1) := by decide +kernel
theorem dL_law_458 : decode cL_law 458 = .ok (.invokevirtual 66, 3) := by decide +kernel
theorem dL_law_461 : decode cL_law 461 = .ok (.iload 5, 2) := by decide +kernel
theorem dL_law_463 : decode cL_law 463 = .ok (.if_icmp .eq 5, 3) := by decide +kernel
theorem dL_law_466 : decode cL_law 466 = .ok (.iconst 0, 1) := by decide +kernel
theorem dL_law_467 : decode cL_law 467 = .ok (.ireturn, 1) := by decide +kernel
theorem dL_law_468 : decode cL_law 468 = .ok (.iload 5, 2) := by decide +kernel
theorem dL_law_470 : decode cL_law 470 = .ok (.ifCond .ne 15, 3) := by decide +kernel
theorem dL_law_473 : decode cL_law 473 = .ok (.aload_n 3, 1) := by decide +kernel
theorem dL_law_474 : decode cL_law 474 = .ok (.iconst 0, 1) := by decide +kernel
theorem dL_law_475 : decode cL_law 475 = .ok (.laload, 1) := by decide +kernel
theorem dL_law_476 : decode cL_law 476 = .ok (.iload 6, 2) := by decide +kernel
theorem dL_law_478 : decode cL_law 478 = .ok (.i2l, 1) := by decide +kernel
theorem dL_law_479 : decode cL_law 479 = .ok (.lcmp, 1) := by decide +kernel
theorem dL_law_480 : decode cL_law 480 = .ok (.ifCond .eq 5, 3) := by decide +kernel
theorem dL_law_483 : decode cL_law 483 = .ok (.iconst 0, 1) := by decide +kernel
theorem dL_law_484 : decode cL_law 484 = .ok (.ireturn, 1) := by decide +kernel
theorem dL_law_485 : decode cL_law 485 = .ok (.goto 315, 3) := by decide +kernel
theorem dL_law_488 : decode cL_law 488 = .ok (.aload_n 1, 1) := by decide +kernel
theorem dL_law_489 : decode cL_law 489 = .ok (.invokevirtual 90, 3) := by decide +kernel
theorem dL_law_492 : decode cL_law 492 = .ok (.aload_n 2, 1) := by decide +kernel
theorem dL_law_493 : decode cL_law 493 = .ok (.invokevirtual 93, 3) := by decide +kernel
theorem dL_law_496 : decode cL_law 496 = .ok (.if_icmp .eq 304, 3) := by decide +kernel
theorem dL_law_499 : decode cL_law 499 = .ok (.iconst 0, 1) := by decide +kernel
theorem dL_law_500 : decode cL_law 500 = .ok (.ireturn, 1) := by decide +kernel
theorem dL_law_501 : decode cL_law 501 = .ok (.aload_n 1, 1) := by decide +kernel
theorem dL_law_502 : decode cL_law 502 = .ok (.aload_n 0, 1) := by decide +kernel
theorem dL_law_503 : decode cL_law 503 = .ok (.iload 4, 2) := by decide +kernel
theorem dL_law_505 : decode cL_law 505 = .ok (.iconst 1, 1) := by decide +kernel
theorem dL_law_506 : decode cL_law 506 = .ok (.iadd, 1) := by decide +kernel
theorem dL_law_507 : decode cL_law 507 = .ok (.iaload, 1) := by decide +kernel
theorem dL_law_508 : decode cL_law 508 = .ok (.aload_n 3, 1) := by decide +kernel
theorem dL_law_509 : decode cL_law 509 = .ok (.invokestatic 94, 3) := by decide +kernel
theorem dL_law_512 : decode cL_law 512 = .ok (.istore 5, 2) := by decide +kernel
theorem dL_law_514 : decode cL_law 514 = .ok (.aload_n 2, 1) := by decide +kernel
theorem dL_law_515 : decode cL_law 515 = .ok (.aload_n 0, 1) := by decide +kernel
theorem dL_law_516 : decode cL_law 516 = .ok (.iload 4, 2) := by decide +kernel
theorem dL_law_518 : decode cL_law 518 = .ok (.iconst 1, 1) := by decide +kernel
theorem dL_law_519 : decode cL_law 519 = .ok (.iadd, 1) := by decide +kernel
theorem dL_law_520 : decode cL_law 520 = .ok (.iaload, 1) := by decide +kernel
theorem dL_law_521 : decode cL_law 521 = .ok (.invokevirtual 96, 3) := by decide +kernel
theorem dL_law_524 : decode cL_law 524 = .ok (.istore 6, 2) := by decide +kernel
theorem dL_law_526 : decode cL_law 526 = .ok (.aload_n 2, 1) := by decide +kernel
theorem dL_law_527 : decode cL_law 527 = .ok (.invokevirtual 66, 3) := by decide +kernel
theorem dL_law_530 : decode cL_law 530 = .ok (.iload 5, 2) := by decide +kernel
theorem dL_law_532 : decode cL_law 532 = .ok (.if_icmp .eq 5, 3) := by decide +kernel
theorem dL_law_535 : decode cL_law 535 = .ok (.iconst 0, 1) := by decide +kernel
theorem dL_law_536 : decode cL_law 536 = .ok (.ireturn, 1) := by decide +kernel
theorem dL_law_537 : decode cL_law 537 = .ok (.iload 5, 2) := by decide +kernel
theorem dL_law_539 : decode cL_law 539 = .ok (.ifCond .ne 22, 3) := by decide +kernel
theorem dL_law_542 : decode cL_law 542 = .ok (.aload_n 3, 1) := by decide +kernel
theorem dL_law_543 : decode cL_law 543 = .ok (.iconst 0, 1) := by decide +kernel
theorem dL_law_544 : decode cL_law 544 = .ok (.laload, 1) := by decide +kernel
theorem dL_law_545 : decode cL_law 545 = .ok (.iload 6, 2) := by decide +kernel
theorem dL_law_547 : decode cL_law 547 = .ok (.ifCond .eq 7, 3) := by decide +kernel
theorem dL_law_550 : decode cL_law 550 = .ok (.lconst 1, 1) := by decide +kernel
theorem dL_law_551 : decode cL_law 551 = .ok (.goto 4, 3) := by decide +kernel
theorem dL_law_554 : decode cL_law 554 = .ok (.lconst 0, 1) := by decide +kernel
theorem dL_law_555 : decode cL_law 555 = .ok (.lcmp, 1) := by decide +kernel
theorem dL_law_556 : decode cL_law 556 = .ok (.ifCond .eq 5, 3) := by decide +kernel
theorem dL_law_559 : decode cL_law 559 = .ok (.iconst 0, 1) := by decide +kernel
theorem dL_law_560 : decode cL_law 560 = .ok (.ireturn, 1) := by decide +kernel
theorem dL_law_561 : decode cL_law 561 = .ok (.goto 239, 3) := by decide +kernel
theorem dL_law_564 : decode cL_law 564 = .ok (.aload_n 1, 1) := by decide +kernel
theorem dL_law_565 : decode cL_law 565 = .ok (.aload_n 0, 1) := by decide +kernel
theorem dL_law_566 : decode cL_law 566 = .ok (.iload 4, 2) := by decide +kernel
theorem dL_law_568 : decode cL_law 568 = .ok (.iconst 1, 1) := by decide +kernel
theorem dL_law_569 : decode cL_law 569 = .ok (.iadd, 1) := by decide +kernel
theorem dL_law_570 : decode cL_law 570 = .ok (.iaload, 1) := by decide +kernel
theorem dL_law_571 : decode cL_law 571 = .ok (.aload_n 3, 1) := by decide +kernel
theorem dL_law_572 : decode cL_law 572 = .ok (.invokestatic 97, 3) := by decide +kernel
theorem dL_law_575 : decode cL_law 575 = .ok (.istore 5, 2) := by decide +kernel
theorem dL_law_577 : decode cL_law 577 = .ok (.aload_n 2, 1) := by decide +kernel
theorem dL_law_578 : decode cL_law 578 = .ok (.aload_n 0, 1) := by decide +kernel
theorem dL_law_579 : decode cL_law 579 = .ok (.iload 4, 2) := by decide +kernel
theorem dL_law_581 : decode cL_law 581 = .ok (.iconst 1, 1) := by decide +kernel
theorem dL_law_582 : decode cL_law 582 = .ok (.iadd, 1) := by decide +kernel
theorem dL_law_583 : decode cL_law 583 = .ok (.iaload, 1) := by decide +kernel
theorem dL_law_584 : decode cL_law 584 = .ok (.invokevirtual 99, 3) := by decide +kernel
theorem dL_law_587 : decode cL_law 587 = .ok (.istore 6, 2) := by decide +kernel
theorem dL_law_589 : decode cL_law 589 = .ok (.aload_n 2, 1) := by decide +kernel
theorem dL_law_590 : decode cL_law 590 = .ok (.invokevirtual 66, 3) := by decide +kernel
theorem dL_law_593 : decode cL_law 593 = .ok (.iload 5, 2) := by decide +kernel
theorem dL_law_595 : decode cL_law 595 = .ok (.if_icmp .eq 5, 3) := by decide +kernel
theorem dL_law_598 : decode cL_law 598 = .ok (.iconst 0, 1) := by decide +kernel
theorem dL_law_599 : decode cL_law 599 = .ok (.ireturn, 1) := by decide +kernel
theorem dL_law_600 : decode cL_law 600 = .ok (.iload 5, 2) := by decide +kernel
theorem dL_law_602 : decode cL_law 602 = .ok (.ifCond .ne 15, 3) := by decide +kernel
theorem dL_law_605 : decode cL_law 605 = .ok (.aload_n 3, 1) := by decide +kernel
theorem dL_law_606 : decode cL_law 606 = .ok (.iconst 0, 1) := by decide +kernel
theorem dL_law_607 : decode cL_law 607 = .ok (.laload, 1) := by decide +kernel
theorem dL_law_608 : decode cL_law 608 = .ok (.iload 6, 2) := by decide +kernel
theorem dL_law_610 : decode cL_law 610 = .ok (.i2l, 1) := by decide +kernel
theorem dL_law_611 : decode cL_law 611 = .ok (.lcmp, 1) := by decide +kernel
theorem dL_law_612 : decode cL_law 612 = .ok (.ifCond .eq 5, 3) := by decide +kernel
theorem dL_law_615 : decode cL_law 615 = .ok (.iconst 0, 1) := by decide +kernel
theorem dL_law_616 : decode cL_law 616 = .ok (.ireturn, 1) := by decide +kernel
theorem dL_law_617 : decode cL_law 617 = .ok (.goto 183, 3) := by decide +kernel
theorem dL_law_620 : decode cL_law 620 = .ok (.aload_n 1, 1) := by decide +kernel
theorem dL_law_621 : decode cL_law 621 = .ok (.aload_n 0, 1) := by decide +kernel
theorem dL_law_622 : decode cL_law 622 = .ok (.iload 4, 2) := by decide +kernel
theorem dL_law_624 : decode cL_law 624 = .ok (.iconst 1, 1) := by decide +kernel
theorem dL_law_625 : decode cL_law 625 = .ok (.iadd, 1) := by decide +kernel
theorem dL_law_626 : decode cL_law 626 = .ok (.iaload, 1) := by decide +kernel
theorem dL_law_627 : decode cL_law 627 = .ok (.aload_n 0, 1) := by decide +kernel
theorem dL_law_628 : decode cL_law 628 = .ok (.iload 4, 2) := by decide +kernel
theorem dL_law_630 : decode cL_law 630 = .ok (.iconst 2, 1) := by decide +kernel
theorem dL_law_631 : decode cL_law 631 = .ok (.iadd, 1) := by decide +kernel
theorem dL_law_632 : decode cL_law 632 = .ok (.iaload, 1) := by decide +kernel
theorem dL_law_633 : decode cL_law 633 = .ok (.aload_n 3, 1) := by decide +kernel
theorem dL_law_634 : decode cL_law 634 = .ok (.invokestatic 100, 3) := by decide +kernel
theorem dL_law_637 : decode cL_law 637 = .ok (.istore 5, 2) := by decide +kernel
theorem dL_law_639 : decode cL_law 639 = .ok (.aload_n 2, 1) := by decide +kernel
theorem dL_law_640 : decode cL_law 640 = .ok (.aload_n 0, 1) := by decide +kernel
theorem dL_law_641 : decode cL_law 641 = .ok (.iload 4, 2) := by decide +kernel
theorem dL_law_643 : decode cL_law 643 = .ok (.iconst 1, 1) := by decide +kernel
theorem dL_law_644 : decode cL_law 644 = .ok (.iadd, 1) := by decide +kernel
theorem dL_law_645 : decode cL_law 645 = .ok (.iaload, 1) := by decide +kernel
theorem dL_law_646 : decode cL_law 646 = .ok (.aload_n 0, 1) := by decide +kernel
theorem dL_law_647 : decode cL_law 647 = .ok (.iload 4, 2) := by decide +kernel
theorem dL_law_649 : decode cL_law 649 = .ok (.iconst 2, 1) := by decide +kernel
theorem dL_law_650 : decode cL_law 650 = .ok (.iadd, 1) := by decide +kernel
theorem dL_law_651 : decode cL_law 651 = .ok (.iaload, 1) := by decide +kernel
theorem dL_law_652 : decode cL_law 652 = .ok (.invokevirtual 103, 3) := by decide +kernel
theorem dL_law_655 : decode cL_law 655 = .ok (.istore 6, 2) := by decide +kernel
theorem dL_law_657 : decode cL_law 657 = .ok (.aload_n 2, 1) := by decide +kernel
theorem dL_law_658 : decode cL_law 658 = .ok (.invokevirtual 66, 3) := by decide +kernel
theorem dL_law_661 : decode cL_law 661 = .ok (.iload 5, 2) := by decide +kernel
theorem dL_law_663 : decode cL_law 663 = .ok (.if_icmp .eq 5, 3) := by decide +kernel
theorem dL_law_666 : decode cL_law 666 = .ok (.iconst 0, 1) := by decide +kernel
theorem dL_law_667 : decode cL_law 667 = .ok (.ireturn, 1) := by decide +kernel
theorem dL_law_668 : decode cL_law 668 = .ok (.iload 5, 2) := by decide +kernel
theorem dL_law_670 : decode cL_law 670 = .ok (.ifCond .ne 15, 3) := by decide +kernel
theorem dL_law_673 : decode cL_law 673 = .ok (.aload_n 3, 1) := by decide +kernel
theorem dL_law_674 : decode cL_law 674 = .ok (.iconst 0, 1) := by decide +kernel
theorem dL_law_675 : decode cL_law 675 = .ok (.laload, 1) := by decide +kernel
theorem dL_law_676 : decode cL_law 676 = .ok (.iload 6, 2) := by decide +kernel
theorem dL_law_678 : decode cL_law 678 = .ok (.i2l, 1) := by decide +kernel
theorem dL_law_679 : decode cL_law 679 = .ok (.lcmp, 1) := by decide +kernel
theorem dL_law_680 : decode cL_law 680 = .ok (.ifCond .eq 5, 3) := by decide +kernel
theorem dL_law_683 : decode cL_law 683 = .ok (.iconst 0, 1) := by decide +kernel
theorem dL_law_684 : decode cL_law 684 = .ok (.ireturn, 1) := by decide +kernel
theorem dL_law_685 : decode cL_law 685 = .ok (.goto 115, 3) := by decide +kernel
theorem dL_law_688 : decode cL_law 688 = .ok (.aload_n 1, 1) := by decide +kernel
theorem dL_law_689 : decode cL_law 689 = .ok (.aload_n 0, 1) := by decide +kernel
theorem dL_law_690 : decode cL_law 690 = .ok (.iload 4, 2) := by decide +kernel
theorem dL_law_692 : decode cL_law 692 = .ok (.iconst 1, 1) := by decide +kernel
theorem dL_law_693 : decode cL_law 693 = .ok (.iadd, 1) := by decide +kernel
theorem dL_law_694 : decode cL_law 694 = .ok (.iaload, 1) := by decide +kernel
theorem dL_law_695 : decode cL_law 695 = .ok (.aload_n 3, 1) := by decide +kernel
theorem dL_law_696 : decode cL_law 696 = .ok (.invokestatic 104, 3) := by decide +kernel
theorem dL_law_699 : decode cL_law 699 = .ok (.istore 5, 2) := by decide +kernel
theorem dL_law_701 : decode cL_law 701 = .ok (.aload_n 2, 1) := by decide +kernel
theorem dL_law_702 : decode cL_law 702 = .ok (.aload_n 0, 1) := by decide +kernel
theorem dL_law_703 : decode cL_law 703 = .ok (.iload 4, 2) := by decide +kernel
theorem dL_law_705 : decode cL_law 705 = .ok (.iconst 1, 1) := by decide +kernel
theorem dL_law_706 : decode cL_law 706 = .ok (.iadd, 1) := by decide +kernel
theorem dL_law_707 : decode cL_law 707 = .ok (.iaload, 1) := by decide +kernel
theorem dL_law_708 : decode cL_law 708 = .ok (.invokevirtual 106, 3) := by decide +kernel
theorem dL_law_711 : decode cL_law 711 = .ok (.istore 6, 2) := by decide +kernel
theorem dL_law_713 : decode cL_law 713 = .ok (.aload_n 2, 1) := by decide +kernel
theorem dL_law_714 : decode cL_law 714 = .ok (.invokevirtual 66, 3) := by decide +kernel
theorem dL_law_717 : decode cL_law 717 = .ok (.iload 5, 2) := by decide +kernel
theorem dL_law_719 : decode cL_law 719 = .ok (.if_icmp .eq 5, 3) := by decide +kernel
theorem dL_law_722 : decode cL_law 722 = .ok (.iconst 0, 1) := by decide +kernel
theorem dL_law_723 : decode cL_law 723 = .ok (.ireturn, 1) := by decide +kernel
theorem dL_law_724 : decode cL_law 724 = .ok (.iload 5, 2) := by decide +kernel
theorem dL_law_726 : decode cL_law 726 = .ok (.ifCond .ne 15, 3) := by decide +kernel
theorem dL_law_729 : decode cL_law 729 = .ok (.aload_n 3, 1) := by decide +kernel
theorem dL_law_730 : decode cL_law 730 = .ok (.iconst 0, 1) := by decide +kernel
theorem dL_law_731 : decode cL_law 731 = .ok (.laload, 1) := by decide +kernel
theorem dL_law_732 : decode cL_law 732 = .ok (.iload 6, 2) := by decide +kernel
theorem dL_law_734 : decode cL_law 734 = .ok (.i2l, 1) := by decide +kernel
theorem dL_law_735 : decode cL_law 735 = .ok (.lcmp, 1) := by decide +kernel
theorem dL_law_736 : decode cL_law 736 = .ok (.ifCond .eq 5, 3) := by decide +kernel
theorem dL_law_739 : decode cL_law 739 = .ok (.iconst 0, 1) := by decide +kernel
theorem dL_law_740 : decode cL_law 740 = .ok (.ireturn, 1) := by decide +kernel
theorem dL_law_741 : decode cL_law 741 = .ok (.goto 59, 3) := by decide +kernel
theorem dL_law_744 : decode cL_law 744 = .ok (.aload_n 1, 1) := by decide +kernel
theorem dL_law_745 : decode cL_law 745 = .ok (.aload_n 0, 1) := by decide +kernel
theorem dL_law_746 : decode cL_law 746 = .ok (.iload 4, 2) := by decide +kernel
theorem dL_law_748 : decode cL_law 748 = .ok (.iconst 1, 1) := by decide +kernel
theorem dL_law_749 : decode cL_law 749 = .ok (.iadd, 1) := by decide +kernel
theorem dL_law_750 : decode cL_law 750 = .ok (.iaload, 1) := by decide +kernel
theorem dL_law_751 : decode cL_law 751 = .ok (.aload_n 3, 1) := by decide +kernel
theorem dL_law_752 : decode cL_law 752 = .ok (.invokestatic 107, 3) := by decide +kernel
theorem dL_law_755 : decode cL_law 755 = .ok (.istore 5, 2) := by decide +kernel
theorem dL_law_757 : decode cL_law 757 = .ok (.aload_n 2, 1) := by decide +kernel
theorem dL_law_758 : decode cL_law 758 = .ok (.aload_n 0, 1) := by decide +kernel
theorem dL_law_759 : decode cL_law 759 = .ok (.iload 4, 2) := by decide +kernel
theorem dL_law_761 : decode cL_law 761 = .ok (.iconst 1, 1) := by decide +kernel
theorem dL_law_762 : decode cL_law 762 = .ok (.iadd, 1) := by decide +kernel
theorem dL_law_763 : decode cL_law 763 = .ok (.iaload, 1) := by decide +kernel
theorem dL_law_764 : decode cL_law 764 = .ok (.invokevirtual 109, 3) := by decide +kernel
theorem dL_law_767 : decode cL_law 767 = .ok (.istore 6, 2) := by decide +kernel
theorem dL_law_769 : decode cL_law 769 = .ok (.aload_n 2, 1) := by decide +kernel
theorem dL_law_770 : decode cL_law 770 = .ok (.invokevirtual 66, 3) := by decide +kernel
theorem dL_law_773 : decode cL_law 773 = .ok (.iload 5, 2) := by decide +kernel
theorem dL_law_775 : decode cL_law 775 = .ok (.if_icmp .eq 5, 3) := by decide +kernel
theorem dL_law_778 : decode cL_law 778 = .ok (.iconst 0, 1) := by decide +kernel
theorem dL_law_779 : decode cL_law 779 = .ok (.ireturn, 1) := by decide +kernel
theorem dL_law_780 : decode cL_law 780 = .ok (.iload 5, 2) := by decide +kernel
theorem dL_law_782 : decode cL_law 782 = .ok (.ifCond .ne 15, 3) := by decide +kernel
theorem dL_law_785 : decode cL_law 785 = .ok (.aload_n 3, 1) := by decide +kernel
theorem dL_law_786 : decode cL_law 786 = .ok (.iconst 0, 1) := by decide +kernel
theorem dL_law_787 : decode cL_law 787 = .ok (.laload, 1) := by decide +kernel
theorem dL_law_788 : decode cL_law 788 = .ok (.iload 6, 2) := by decide +kernel
theorem dL_law_790 : decode cL_law 790 = .ok (.i2l, 1) := by decide +kernel
theorem dL_law_791 : decode cL_law 791 = .ok (.lcmp, 1) := by decide +kernel
theorem dL_law_792 : decode cL_law 792 = .ok (.ifCond .eq 5, 3) := by decide +kernel
theorem dL_law_795 : decode cL_law 795 = .ok (.iconst 0, 1) := by decide +kernel
theorem dL_law_796 : decode cL_law 796 = .ok (.ireturn, 1) := by decide +kernel
theorem dL_law_797 : decode cL_law 797 = .ok (.goto 3, 3) := by decide +kernel
theorem dL_law_800 : decode cL_law 800 = .ok (.iinc 4 4, 3) := by decide +kernel
theorem dL_law_803 : decode cL_law 803 = .ok (.goto (-780), 3) := by decide +kernel
theorem dL_law_806 : decode cL_law 806 = .ok (.iconst 1, 1) := by decide +kernel
theorem dL_law_807 : decode cL_law 807 = .ok (.ireturn, 1) := by decide +kernel

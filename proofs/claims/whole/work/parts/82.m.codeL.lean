set_option maxRecDepth 20000 in
theorem ggL_size_X5_size : GoodIn wsL_size wsX5_size := goodIn_ca (goodIn_r _ [6, 7, 8, 9, 10, 5, 11, 12, 13, 14, 15, 16, 17, 18, 19, 20, 21, 22, 23, 24, 25, 26, 27, 28, 29, 30, 31, 32, 33, 34, 35, 36, 37, 38, 39, 40, 41, 42] (by decide +kernel) (by decide +kernel)) (goodIn_sub (fun _ h => List.mem_cons_of_mem _ (List.mem_append_right _ h)) (by decide +kernel))
set_option maxRecDepth 20000 in
theorem gL_size_X5_size : GoodIn wsL_size (wsV RL 7 RX5 yX5_size wsX5_size) := goodIn_app (goodIn_of _ (by decide +kernel)) ggL_size_X5_size
theorem dL_size_0 : decode cL_size 0 = .ok (.aload_n 0, 1) := by decide +kernel
theorem dL_size_1 : decode cL_size 1 = .ok (.iload_n 1, 1) := by decide +kernel
theorem dL_size_2 : decode cL_size 2 = .ok (.iload_n 2, 1) := by decide +kernel
theorem dL_size_3 : decode cL_size 3 = .ok (.iload_n 3, 1) := by decide +kernel
theorem dL_size_4 : decode cL_size 4 = .ok (.invokevirtual 7, 3) := by decide +kernel
theorem dL_size_7 : decode cL_size 7 = .ok (.goto 7, 3) := by decide +kernel
theorem dL_size_10 : decode cL_size 10 = .ok (.astore 4, 2) := by decide +kernel
theorem dL_size_12 : decode cL_size 12 = .ok (.iconst 1, 1) := by decide +kernel
theorem dL_size_13 : decode cL_size 13 = .ok (.ireturn, 1) := by decide +kernel
theorem dL_size_14 : decode cL_size 14 = .ok (.iconst 0, 1) := by decide +kernel
theorem dL_size_15 : decode cL_size 15 = .ok (.ireturn, 1) := by decide +kernel
set_option maxRecDepth 20000 in
theorem ggL_point_X5_point : GoodIn wsL_point wsX5_point := goodIn_ca (goodIn_r _ [6, 7, 8, 9, 10, 11, 12, 13, 5, 14, 15, 16, 17, 18, 19, 20, 21, 22, 23, 24, 25, 26, 27, 28, 29, 30, 31, 32, 33, 34, 35, 36, 37, 38, 39, 40, 41, 42, 43, 44, 45, 46] (by decide +kernel) (by decide +kernel)) (goodIn_sub (fun _ h => List.mem_cons_of_mem _ (List.mem_append_right _ h)) (by decide +kernel))
set_option maxRecDepth 20000 in
theorem gL_point_X5_point : GoodIn wsL_point (wsV RL 15 RX5 yX5_point wsX5_point) := goodIn_app (goodIn_of _ (by decide +kernel)) ggL_point_X5_point
theorem dL_point_0 : decode cL_point 0 = .ok (.aload_n 0, 1) := by decide +kernel
theorem dL_point_1 : decode cL_point 1 = .ok (.iload_n 1, 1) := by decide +kernel
theorem dL_point_2 : decode cL_point 2 = .ok (.iload_n 2, 1) := by decide +kernel
theorem dL_point_3 : decode cL_point 3 = .ok (.iload_n 3, 1) := by decide +kernel
theorem dL_point_4 : decode cL_point 4 = .ok (.invokevirtual 15, 3) := by decide +kernel
theorem dL_point_7 : decode cL_point 7 = .ok (.goto 7, 3) := by decide +kernel
theorem dL_point_10 : decode cL_point 10 = .ok (.astore 4, 2) := by decide +kernel
theorem dL_point_12 : decode cL_point 12 = .ok (.iconst 1, 1) := by decide +kernel
theorem dL_point_13 : decode cL_point 13 = .ok (.ireturn, 1) := by decide +kernel
theorem dL_point_14 : decode cL_point 14 = .ok (.iconst 0, 1) := by decide +kernel
theorem dL_point_15 : decode cL_point 15 = .ok (.ireturn, 1) := by decide +kernel
set_option maxRecDepth 20000 in
theorem ggL_root_X5_root : GoodIn wsL_root wsX5_root := goodIn_ca (goodIn_r _ [6, 7, 8, 9, 10, 11, 12, 13, 5, 14, 15, 16, 17, 18, 19, 20, 21, 22, 23, 24, 25, 26, 27, 28, 29, 30, 31, 32, 33, 34, 35, 36, 37, 38, 39, 40, 41, 42, 43, 44, 45, 46] (by decide +kernel) (by decide +kernel)) (goodIn_sub (fun _ h => List.mem_cons_of_mem _ (List.mem_append_right _ h)) (by decide +kernel))
set_option maxRecDepth 20000 in
theorem gL_root_X5_root : GoodIn wsL_root (wsV RL 18 RX5 yX5_root wsX5_root) := goodIn_app (goodIn_of _ (by decide +kernel)) ggL_root_X5_root
theorem dL_root_0 : decode cL_root 0 = .ok (.aload_n 0, 1) := by decide +kernel
theorem dL_root_1 : decode cL_root 1 = .ok (.iload_n 1, 1) := by decide +kernel
theorem dL_root_2 : decode cL_root 2 = .ok (.iload_n 2, 1) := by decide +kernel
theorem dL_root_3 : decode cL_root 3 = .ok (.invokevirtual 18, 3) := by decide +kernel
theorem dL_root_6 : decode cL_root 6 = .ok (.goto 6, 3) := by decide +kernel
theorem dL_root_9 : decode cL_root 9 = .ok (.astore_n 3, 1) := by decide +kernel
theorem dL_root_10 : decode cL_root 10 = .ok (.iconst 1, 1) := by decide +kernel
theorem dL_root_11 : decode cL_root 11 = .ok (.ireturn, 1) := by decide +kernel
theorem dL_root_12 : decode cL_root 12 = .ok (.iconst 0, 1) := by decide +kernel
theorem dL_root_13 : decode cL_root 13 = .ok (.ireturn, 1) := by decide +kernel
set_option maxRecDepth 20000 in
theorem ggL_rules_X5_rules : GoodIn wsL_rules wsX5_rules := goodIn_ca (goodIn_r _ [6, 7, 8, 9, 10, 11, 12, 5, 13, 14, 15, 16, 17, 18, 19, 20, 21, 22, 23, 24, 25, 26, 27, 28, 29, 30, 31, 32, 33, 34, 35, 36, 37] (by decide +kernel) (by decide +kernel)) (goodIn_sub (fun _ h => List.mem_cons_of_mem _ (List.mem_append_right _ h)) (by decide +kernel))
set_option maxRecDepth 20000 in
theorem gL_rules_X5_rules : GoodIn wsL_rules (wsV RL 22 RX5 yX5_rules wsX5_rules) := goodIn_app (goodIn_of _ (by decide +kernel)) ggL_rules_X5_rules
theorem dL_rules_0 : decode cL_rules 0 = .ok (.aload_n 0, 1) := by decide +kernel
theorem dL_rules_1 : decode cL_rules 1 = .ok (.iload_n 1, 1) := by decide +kernel
theorem dL_rules_2 : decode cL_rules 2 = .ok (.iload_n 2, 1) := by decide +kernel
theorem dL_rules_3 : decode cL_rules 3 = .ok (.invokevirtual 22, 3) := by decide +kernel
theorem dL_rules_6 : decode cL_rules 6 = .ok (.goto 6, 3) := by decide +kernel
theorem dL_rules_9 : decode cL_rules 9 = .ok (.astore_n 3, 1) := by decide +kernel
theorem dL_rules_10 : decode cL_rules 10 = .ok (.iconst 1, 1) := by decide +kernel
theorem dL_rules_11 : decode cL_rules 11 = .ok (.ireturn, 1) := by decide +kernel
theorem dL_rules_12 : decode cL_rules 12 = .ok (.iconst 0, 1) := by decide +kernel
theorem dL_rules_13 : decode cL_rules 13 = .ok (.ireturn, 1) := by decide +kernel
set_option maxRecDepth 20000 in
theorem ggL_find_X5_find : GoodIn wsL_find wsX5_find := goodIn_ca (goodIn_r _ [6, 7, 8, 9, 10, 5, 11, 12, 13, 14, 15, 16, 17, 18, 19, 20, 21, 22, 23, 24, 25, 26, 27, 28, 29, 30, 31, 32, 33, 34, 35, 36, 37, 38, 39, 40, 41, 42, 43, 44, 45, 46, 47, 48, 49, 50, 51, 52, 53, 54, 55, 56, 57, 58, 59, 60, 61, 62, 63, 64, 65, 66, 67, 68, 69, 70, 71, 72, 73, 74, 75, 76, 77, 78, 79, 80, 81, 82, 83, 84, 85, 86, 87, 88, 89, 90, 91, 92, 93, 94, 95, 96, 97, 98, 99, 100, 101, 102, 103, 104, 105, 106, 107, 108, 109, 110, 111, 112, 113, 114, 115, 116, 117, 118, 119, 120, 121, 122, 123, 124, 125, 126, 127, 128, 129, 130, 131, 132, 133, 134, 135, 136, 137, 138, 139, 140, 141, 142, 143, 144, 145, 146, 147, 148, 149, 150, 151, 152, 153, 154, 155, 156, 157, 158, 159, 160, 161, 162, 163, 164, 165, 166, 167, 168, 169, 170, 171, 172, 173, 174, 175, 176, 177, 178, 179, 180, 181, 182, 183, 184, 185, 186, 187, 188, 189, 190, 191, 192, 193, 194, 195, 196, 197, 198, 199, 200, 201, 202, 203, 204, 205, 206, 207, 208, 209, 210, 211, 212, 213, 214, 215, 216, 217, 218, 219, 220, 221, 222] (by decide +kernel) (by decide +kernel)) (goodIn_sub (fun _ h => List.mem_cons_of_mem _ (List.mem_append_right _ h)) (by decide +kernel))
set_option maxRecDepth 20000 in
theorem gL_find_X5_find : GoodIn wsL_find (wsV RL 25 RX5 yX5_find wsX5_find) := goodIn_app (goodIn_of _ (by decide +kernel)) ggL_find_X5_find
theorem dL_find_0 : decode cL_find 0 = .ok (.aload_n 2, 1) := by decide +kernel
theorem dL_find_1 : decode cL_find 1 = .ok (.iconst 0, 1) := by decide +kernel
theorem dL_find_2 : decode cL_find 2 = .ok (.aload_n 0, 1) := by decide +kernel
theorem dL_find_3 : decode cL_find 3 = .ok (.iload_n 1, 1) := by decide +kernel
theorem dL_find_4 : decode cL_find 4 = .ok (.invokevirtual 25, 3) := by decide +kernel
theorem dL_find_7 : decode cL_find 7 = .ok (.i2l, 1) := by decide +kernel
theorem dL_find_8 : decode cL_find 8 = .ok (.lastore, 1) := by decide +kernel
theorem dL_find_9 : decode cL_find 9 = .ok (.goto 6, 3) := by decide +kernel
theorem dL_find_12 : decode cL_find 12 = .ok (.astore_n 3, 1) := by decide +kernel
theorem dL_find_13 : decode cL_find 13 = .ok (.iconst 1, 1) := by decide +kernel
theorem dL_find_14 : decode cL_find 14 = .ok (.ireturn, 1) := by decide +kernel
theorem dL_find_15 : decode cL_find 15 = .ok (.iconst 0, 1) := by decide +kernel
theorem dL_find_16 : decode cL_find 16 = .ok (.ireturn, 1) := by decide +kernel
set_option maxRecDepth 20000 in
theorem ggL_act_X5_act : GoodIn wsL_act wsX5_act := goodIn_ca (goodIn_r _ [6, 7, 8, 9, 10, 11, 12, 13, 14, 15, 16, 17, 18, 19, 20, 21, 22] (by decide +kernel) (by decide +kernel)) (goodIn_sub (fun _ h => List.mem_cons_of_mem _ (List.mem_append_right _ h)) (by decide +kernel))
set_option maxRecDepth 20000 in
theorem gL_act_X5_act : GoodIn wsL_act (wsV RL 29 RX5 yX5_act wsX5_act) := goodIn_app (goodIn_of _ (by decide +kernel)) ggL_act_X5_act
theorem dL_act_0 : decode cL_act 0 = .ok (.aload_n 2, 1) := by decide +kernel
theorem dL_act_1 : decode cL_act 1 = .ok (.iconst 0, 1) := by decide +kernel
theorem dL_act_2 : decode cL_act 2 = .ok (.aload_n 0, 1) := by decide +kernel
theorem dL_act_3 : decode cL_act 3 = .ok (.iload_n 1, 1) := by decide +kernel
theorem dL_act_4 : decode cL_act 4 = .ok (.invokevirtual 29, 3) := by decide +kernel
theorem dL_act_7 : decode cL_act 7 = .ok (.i2l, 1) := by decide +kernel
theorem dL_act_8 : decode cL_act 8 = .ok (.lastore, 1) := by decide +kernel
theorem dL_act_9 : decode cL_act 9 = .ok (.goto 6, 3) := by decide +kernel
theorem dL_act_12 : decode cL_act 12 = .ok (.astore_n 3, 1) := by decide +kernel
theorem dL_act_13 : decode cL_act 13 = .ok (.iconst 1, 1) := by decide +kernel
theorem dL_act_14 : decode cL_act 14 = .ok (.ireturn, 1) := by decide +kernel
theorem dL_act_15 : decode cL_act 15 = .ok (.iconst 0, 1) := by decide +kernel
theorem dL_act_16 : decode cL_act 16 = .ok (.ireturn, 1) := by decide +kernel
set_option maxRecDepth 20000 in
theorem ggL_play_X5_play : GoodIn wsL_play wsX5_play := goodIn_ca (goodIn_ca (goodIn_r _ [7, 8, 9, 10, 11, 12, 13, 14, 6, 15, 16, 17, 18, 19, 20, 21, 22, 23, 24, 25, 26, 27, 28, 29, 30, 31, 32, 33, 34, 35, 36, 37, 38, 39, 40, 41, 42, 43, 44, 45, 46, 47, 48, 49, 50, 51, 52, 53, 54, 55, 56, 57, 58, 59, 60, 61, 62, 63, 64, 65, 66, 67, 68, 69, 70, 71, 72, 73, 74, 75, 76, 77, 78, 79, 80, 81, 82, 83, 84, 85, 86, 87, 88, 89, 90, 91, 92, 93, 94, 95, 96, 97, 98, 99, 100, 101, 102, 103, 104, 105, 106, 107, 108, 109, 110, 111, 112, 113, 114, 115, 116, 117, 118, 119, 120, 121, 122, 123, 124, 125, 126, 127, 128, 129, 130, 131, 132, 133, 134, 135, 136, 137, 138, 139, 140, 141, 142, 143, 144, 145, 146, 147, 148, 149, 150] (by decide +kernel) (by decide +kernel)) (goodIn_sub (fun _ h => List.mem_cons_of_mem _ (List.mem_append_left _ (List.mem_append_right _ h))) (by decide +kernel))) (goodIn_sub (fun _ h => List.mem_cons_of_mem _ (List.mem_append_right _ h)) (by decide +kernel))
set_option maxRecDepth 20000 in
theorem gL_play_X5_play : GoodIn wsL_play (wsV RL 34 RX5 yX5_play wsX5_play) := goodIn_app (goodIn_of _ (by decide +kernel)) ggL_play_X5_play
theorem dL_play_0 : decode cL_play 0 = .ok (.aload_n 2, 1) := by decide +kernel
theorem dL_play_1 : decode cL_play 1 = .ok (.iconst 0, 1) := by decide +kernel
theorem dL_play_2 : decode cL_play 2 = .ok (.aload_n 0, 1) := by decide +kernel
theorem dL_play_3 : decode cL_play 3 = .ok (.iload_n 1, 1) := by decide +kernel
theorem dL_play_4 : decode cL_play 4 = .ok (.invokevirtual 34, 3) := by decide +kernel
theorem dL_play_7 : decode cL_play 7 = .ok (.i2l, 1) := by decide +kernel
theorem dL_play_8 : decode cL_play 8 = .ok (.lastore, 1) := by decide +kernel
theorem dL_play_9 : decode cL_play 9 = .ok (.goto 9, 3) := by decide +kernel
theorem dL_play_12 : decode cL_play 12 = .ok (.astore_n 3, 1) := by decide +kernel
theorem dL_play_13 : decode cL_play 13 = .ok (.iconst 1, 1) := by decide +kernel
theorem dL_play_14 : decode cL_play 14 = .ok (.ireturn, 1) := by decide +kernel
theorem dL_play_15 : decode cL_play 15 = .ok (.astore_n 3, 1) := by decide +kernel
theorem dL_play_16 : decode cL_play 16 = .ok (.iconst 2, 1) := by decide +kernel
theorem dL_play_17 : decode cL_play 17 = .ok (.ireturn, 1) := by decide +kernel
theorem dL_play_18 : decode cL_play 18 = .ok (.iconst 0, 1) := by decide +kernel
theorem dL_play_19 : decode cL_play 19 = .ok (.ireturn, 1) := by decide +kernel
set_option maxRecDepth 20000 in
theorem ggL_broken_X5_broken : GoodIn wsL_broken wsX5_broken := goodIn_ca (goodIn_r _ [6, 7, 8, 9, 5, 10, 11, 12, 13, 14, 15, 16, 17, 18, 19, 20, 21, 22, 23, 24, 25, 26, 27, 28, 29, 30, 31, 32, 33, 34, 35, 36, 37, 38, 39, 40, 41, 42, 43, 44, 45, 46, 47, 48, 49, 50, 51, 52, 53] (by decide +kernel) (by decide +kernel)) (goodIn_sub (fun _ h => List.mem_cons_of_mem _ (List.mem_append_right _ h)) (by decide +kernel))
set_option maxRecDepth 20000 in
theorem gL_broken_X5_broken : GoodIn wsL_broken (wsV RL 39 RX5 yX5_broken wsX5_broken) := goodIn_app (goodIn_of _ (by decide +kernel)) ggL_broken_X5_broken
theorem dL_broken_0 : decode cL_broken 0 = .ok (.aload_n 2, 1) := by decide +kernel
theorem dL_broken_1 : decode cL_broken 1 = .ok (.iconst 0, 1) := by decide +kernel
theorem dL_broken_2 : decode cL_broken 2 = .ok (.aload_n 0, 1) := by decide +kernel
theorem dL_broken_3 : decode cL_broken 3 = .ok (.iload_n 1, 1) := by decide +kernel
theorem dL_broken_4 : decode cL_broken 4 = .ok (.invokevirtual 39, 3) := by decide +kernel
theorem dL_broken_7 : decode cL_broken 7 = .ok (.ifCond .eq 7, 3) := by decide +kernel
theorem dL_broken_10 : decode cL_broken 10 = .ok (.lconst 1, 1) := by decide +kernel
theorem dL_broken_11 : decode cL_broken 11 = .ok (.goto 4, 3) := by decide +kernel
theorem dL_broken_14 : decode cL_broken 14 = .ok (.lconst 0, 1) := by decide +kernel
theorem dL_broken_15 : decode cL_broken 15 = .ok (.lastore, 1) := by decide +kernel
theorem dL_broken_16 : decode cL_broken 16 = .ok (.goto 6, 3) := by decide +kernel
theorem dL_broken_19 : decode cL_broken 19 = .ok (.astore_n 3, 1) := by decide +kernel
theorem dL_broken_20 : decode cL_broken 20 = .ok (.iconst 1, 1) := by decide +kernel
theorem dL_broken_21 : decode cL_broken 21 = .ok (.ireturn, 1) := by decide +kernel
theorem dL_broken_22 : decode cL_broken 22 = .ok (.iconst 0, 1) := by decide +kernel
theorem dL_broken_23 : decode cL_broken 23 = .ok (.ireturn, 1) := by decide +kernel
set_option maxRecDepth 20000 in
theorem ggL_colour_X5_colour : GoodIn wsL_colour wsX5_colour := goodIn_ca (goodIn_r _ [6, 7, 8, 9, 10, 11, 5, 12, 13, 14, 15, 16, 17, 18, 19, 20, 21, 22, 23, 24, 25, 26, 27, 28, 29, 30, 31, 32, 33, 34] (by decide +kernel) (by decide +kernel)) (goodIn_sub (fun _ h => List.mem_cons_of_mem _ (List.mem_append_right _ h)) (by decide +kernel))
set_option maxRecDepth 20000 in
theorem gL_colour_X5_colour : GoodIn wsL_colour (wsV RL 43 RX5 yX5_colour wsX5_colour) := goodIn_app (goodIn_of _ (by decide +kernel)) ggL_colour_X5_colour
theorem dL_colour_0 : decode cL_colour 0 = .ok (.aload_n 2, 1) := by decide +kernel
theorem dL_colour_1 : decode cL_colour 1 = .ok (.iconst 0, 1) := by decide +kernel
theorem dL_colour_2 : decode cL_colour 2 = .ok (.aload_n 0, 1) := by decide +kernel
theorem dL_colour_3 : decode cL_colour 3 = .ok (.iload_n 1, 1) := by decide +kernel
theorem dL_colour_4 : decode cL_colour 4 = .ok (.invokevirtual 43, 3) := by decide +kernel
theorem dL_colour_7 : decode cL_colour 7 = .ok (.i2l, 1) := by decide +kernel
theorem dL_colour_8 : decode cL_colour 8 = .ok (.lastore, 1) := by decide +kernel
theorem dL_colour_9 : decode cL_colour 9 = .ok (.goto 6, 3) := by decide +kernel
theorem dL_colour_12 : decode cL_colour 12 = .ok (.astore_n 3, 1) := by decide +kernel
theorem dL_colour_13 : decode cL_colour 13 = .ok (.iconst 1, 1) := by decide +kernel
theorem dL_colour_14 : decode cL_colour 14 = .ok (.ireturn, 1) := by decide +kernel
theorem dL_colour_15 : decode cL_colour 15 = .ok (.iconst 0, 1) := by decide +kernel
theorem dL_colour_16 : decode cL_colour 16 = .ok (.ireturn, 1) := by decide +kernel
set_option maxRecDepth 20000 in
theorem ggL_field_X5_field : GoodIn wsL_field wsX5_field := goodIn_ca (goodIn_r _ [6, 7, 8, 9, 10, 11, 12, 5, 13, 14, 15, 16, 17, 18, 19, 20, 21, 22, 23, 24, 25, 26, 27, 28, 29, 30, 31, 32] (by decide +kernel) (by decide +kernel)) (goodIn_sub (fun _ h => List.mem_cons_of_mem _ (List.mem_append_right _ h)) (by decide +kernel))
set_option maxRecDepth 20000 in
theorem gL_field_X5_field : GoodIn wsL_field (wsV RL 46 RX5 yX5_field wsX5_field) := goodIn_app (goodIn_of _ (by decide +kernel)) ggL_field_X5_field
theorem dL_field_0 : decode cL_field 0 = .ok (.aload_n 3, 1) := by decide +kernel
theorem dL_field_1 : decode cL_field 1 = .ok (.iconst 0, 1) := by decide +kernel
theorem dL_field_2 : decode cL_field 2 = .ok (.aload_n 0, 1) := by decide +kernel
theorem dL_field_3 : decode cL_field 3 = .ok (.iload_n 1, 1) := by decide +kernel
theorem dL_field_4 : decode cL_field 4 = .ok (.iload_n 2, 1) := by decide +kernel
theorem dL_field_5 : decode cL_field 5 = .ok (.invokevirtual 46, 3) := by decide +kernel
theorem dL_field_8 : decode cL_field 8 = .ok (.i2l, 1) := by decide +kernel
theorem dL_field_9 : decode cL_field 9 = .ok (.lastore, 1) := by decide +kernel
theorem dL_field_10 : decode cL_field 10 = .ok (.goto 7, 3) := by decide +kernel
theorem dL_field_13 : decode cL_field 13 = .ok (.astore 4, 2) := by decide +kernel
theorem dL_field_15 : decode cL_field 15 = .ok (.iconst 1, 1) := by decide +kernel
theorem dL_field_16 : decode cL_field 16 = .ok (.ireturn, 1) := by decide +kernel
theorem dL_field_17 : decode cL_field 17 = .ok (.iconst 0, 1) := by decide +kernel
theorem dL_field_18 : decode cL_field 18 = .ok (.ireturn, 1) := by decide +kernel
set_option maxRecDepth 20000 in
theorem ggL_has_X5_has : GoodIn wsL_has wsX5_has := goodIn_ca (goodIn_r _ [6, 7, 8, 9, 10, 11, 5, 12, 13, 14, 15, 16, 17, 18, 19, 20, 21, 22, 23, 24, 25, 26, 27, 28, 29, 30, 31] (by decide +kernel) (by decide +kernel)) (goodIn_sub (fun _ h => List.mem_cons_of_mem _ (List.mem_append_right _ h)) (by decide +kernel))
set_option maxRecDepth 20000 in
theorem gL_has_X5_has : GoodIn wsL_has (wsV RL 50 RX5 yX5_has wsX5_has) := goodIn_app (goodIn_of _ (by decide +kernel)) ggL_has_X5_has
theorem dL_has_0 : decode cL_has 0 = .ok (.aload_n 2, 1) := by decide +kernel
theorem dL_has_1 : decode cL_has 1 = .ok (.iconst 0, 1) := by decide +kernel
theorem dL_has_2 : decode cL_has 2 = .ok (.aload_n 0, 1) := by decide +kernel
theorem dL_has_3 : decode cL_has 3 = .ok (.iload_n 1, 1) := by decide +kernel
theorem dL_has_4 : decode cL_has 4 = .ok (.invokevirtual 50, 3) := by decide +kernel
theorem dL_has_7 : decode cL_has 7 = .ok (.i2l, 1) := by decide +kernel
theorem dL_has_8 : decode cL_has 8 = .ok (.lastore, 1) := by decide +kernel
theorem dL_has_9 : decode cL_has 9 = .ok (.goto 6, 3) := by decide +kernel
theorem dL_has_12 : decode cL_has 12 = .ok (.astore_n 3, 1) := by decide +kernel
theorem dL_has_13 : decode cL_has 13 = .ok (.iconst 1, 1) := by decide +kernel
theorem dL_has_14 : decode cL_has 14 = .ok (.ireturn, 1) := by decide +kernel
theorem dL_has_15 : decode cL_has 15 = .ok (.iconst 0, 1) := by decide +kernel
theorem dL_has_16 : decode cL_has 16 = .ok (.ireturn, 1) := by decide +kernel
set_option maxRecDepth 20000 in
theorem ggL_count_X5_count : GoodIn wsL_count wsX5_count := goodIn_ca (goodIn_r _ [6, 7, 8, 9, 10, 11, 12, 13, 14, 15, 16, 17, 18, 5, 19, 20, 21, 22, 23, 24, 25, 26, 27, 28, 29, 30, 31, 32, 33, 34, 35, 36, 37, 38, 39, 40, 41, 42, 43, 44, 45] (by decide +kernel) (by decide +kernel)) (goodIn_sub (fun _ h => List.mem_cons_of_mem _ (List.mem_append_right _ h)) (by decide +kernel))
set_option maxRecDepth 20000 in
theorem gL_count_X5_count : GoodIn wsL_count (wsV RL 53 RX5 yX5_count wsX5_count) := goodIn_app (goodIn_of _ (by decide +kernel)) ggL_count_X5_count
theorem dL_count_0 : decode cL_count 0 = .ok (.aload_n 2, 1) := by decide +kernel
theorem dL_count_1 : decode cL_count 1 = .ok (.iconst 0, 1) := by decide +kernel
theorem dL_count_2 : decode cL_count 2 = .ok (.aload_n 0, 1) := by decide +kernel
theorem dL_count_3 : decode cL_count 3 = .ok (.iload_n 1, 1) := by decide +kernel
theorem dL_count_4 : decode cL_count 4 = .ok (.invokevirtual 53, 3) := by decide +kernel
theorem dL_count_7 : decode cL_count 7 = .ok (.i2l, 1) := by decide +kernel
theorem dL_count_8 : decode cL_count 8 = .ok (.lastore, 1) := by decide +kernel
theorem dL_count_9 : decode cL_count 9 = .ok (.goto 6, 3) := by decide +kernel
theorem dL_count_12 : decode cL_count 12 = .ok (.astore_n 3, 1) := by decide +kernel
theorem dL_count_13 : decode cL_count 13 = .ok (.iconst 1, 1) := by decide +kernel
theorem dL_count_14 : decode cL_count 14 = .ok (.ireturn, 1) := by decide +kernel
theorem dL_count_15 : decode cL_count 15 = .ok (.iconst 0, 1) := by decide +kernel
theorem dL_count_16 : decode cL_count 16 = .ok (.ireturn, 1) := by decide +kernel

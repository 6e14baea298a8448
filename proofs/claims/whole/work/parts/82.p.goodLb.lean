set_option maxRecDepth 20000 in
theorem ggL_law_L_point : GoodIn wsL_law wsL_point := goodIn_ca (goodIn_r _ [133, 104, 134, 135, 136, 2, 137, 16, 138, 139, 140, 25, 109, 110, 111, 112, 113, 141, 142, 59, 143, 144, 145, 146, 147, 148, 53, 54, 55, 15, 56, 34, 33, 57, 58, 60, 61, 541, 542, 543, 544, 570, 571, 572, 573, 574, 575] (by decide +kernel) (by decide +kernel)) (goodIn_sub (fun _ h => List.mem_append_left _ (List.mem_append_left _ (List.mem_append_right _ h))) (by decide +kernel))
set_option maxRecDepth 20000 in
theorem gL_law_L_point : GoodIn wsL_law (va_wsS RL 70 yL_point wsL_point) := goodIn_app (goodIn_of _ (by decide +kernel)) ggL_law_L_point
set_option maxRecDepth 20000 in
theorem ggL_law_X6_point : GoodIn wsL_law wsX6_point := goodIn_r _ [152, 66, 67, 69, 83, 153, 154, 155, 5, 156, 122, 123, 124, 125, 126, 84, 85, 86, 87, 71, 72, 70, 73, 74, 88, 89, 90, 91, 92, 93, 94, 95, 96, 97, 98, 99, 545, 546, 547, 548, 549, 550, 551, 552, 553, 554, 555, 556, 557, 558, 559, 560, 561, 562, 563, 564, 565, 566, 567, 568, 569] (by decide +kernel) (by decide +kernel)
set_option maxRecDepth 20000 in
theorem gL_law_X6_point : GoodIn wsL_law (wsV RL 72 RX6 yX6_point wsX6_point) := goodIn_app (goodIn_of _ (by decide +kernel)) ggL_law_X6_point
set_option maxRecDepth 20000 in
theorem ggL_law_L_root : GoodIn wsL_law wsL_root := goodIn_ca (goodIn_r _ [159, 104, 160, 161, 162, 2, 163, 16, 164, 138, 140, 25, 109, 110, 111, 112, 113, 165, 166, 59, 167, 144, 145, 168, 169, 170, 53, 54, 55, 15, 56, 34, 33, 57, 58, 60, 61, 541, 542, 543, 544, 570, 571, 572, 573, 574, 575] (by decide +kernel) (by decide +kernel)) (goodIn_sub (fun _ h => List.mem_append_left _ (List.mem_append_left _ (List.mem_append_right _ h))) (by decide +kernel))
set_option maxRecDepth 20000 in
theorem gL_law_L_root : GoodIn wsL_law (va_wsS RL 73 yL_root wsL_root) := goodIn_app (goodIn_of _ (by decide +kernel)) ggL_law_L_root
set_option maxRecDepth 20000 in
theorem ggL_law_X6_root : GoodIn wsL_law wsX6_root := goodIn_r _ [174, 68, 70, 83, 153, 154, 155, 5, 156, 66, 122, 123, 124, 125, 126, 84, 85, 86, 87, 71, 69, 72, 73, 74, 88, 89, 90, 91, 92, 93, 94, 95, 96, 97, 98, 99, 545, 546, 547, 548, 549, 550, 551, 552, 553, 554, 555, 556, 557, 558, 559, 560, 561, 562, 563, 564, 565, 566, 567, 568, 569] (by decide +kernel) (by decide +kernel)
set_option maxRecDepth 20000 in
theorem gL_law_X6_root : GoodIn wsL_law (wsV RL 76 RX6 yX6_root wsX6_root) := goodIn_app (goodIn_of _ (by decide +kernel)) ggL_law_X6_root
set_option maxRecDepth 20000 in
theorem ggL_law_L_rules : GoodIn wsL_law wsL_rules := goodIn_ca (goodIn_r _ [177, 104, 178, 179, 180, 2, 181, 16, 182, 183, 25, 109, 110, 111, 112, 113, 53, 54, 55, 15, 56, 34, 33, 57, 58, 59, 60, 61, 541, 542, 543, 544, 570, 571, 572, 573, 574, 575] (by decide +kernel) (by decide +kernel)) (goodIn_sub (fun _ h => List.mem_append_left _ (List.mem_append_left _ (List.mem_append_right _ h))) (by decide +kernel))
set_option maxRecDepth 20000 in
theorem gL_law_L_rules : GoodIn wsL_law (va_wsS RL 77 yL_rules wsL_rules) := goodIn_app (goodIn_of _ (by decide +kernel)) ggL_law_L_rules

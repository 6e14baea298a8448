set_option maxRecDepth 20000 in
theorem ggL_law_X5_init : GoodIn wsL_law wsX5_init := goodIn_r _ [9, 10, 11, 12, 13, 14, 15, 16, 17, 18, 19, 20, 21, 22, 23, 24, 25, 26, 27, 28, 29, 30, 31, 32, 33, 34, 35, 36, 37, 38, 39, 40, 41, 42, 43, 6, 44, 45, 46, 47, 48, 49, 50, 51, 52, 53, 54, 55, 56, 57, 58, 59, 60, 61, 570, 571, 572, 573, 574, 575, 541, 542, 543, 544, 576, 577, 578, 579, 580, 581, 582, 583] (by decide +kernel) (by decide +kernel)
set_option maxRecDepth 20000 in
theorem gL_law_X5_init : GoodIn wsL_law (wsX5_init) := ggL_law_X5_init
set_option maxRecDepth 20000 in
theorem ggL_law_X6_init : GoodIn wsL_law wsX6_init := goodIn_r _ [64, 65, 11, 12, 66, 67, 68, 45, 69, 70, 71, 72, 73, 74, 6, 75, 76, 77, 78, 79, 80, 81, 82, 83, 84, 85, 86, 5, 87, 88, 89, 90, 91, 92, 93, 94, 95, 96, 97, 98, 99, 545, 546, 547, 548, 549, 550, 551, 552, 553, 554, 555, 556, 557, 558, 559, 560, 561, 562, 563, 564, 565, 566, 567, 568, 569] (by decide +kernel) (by decide +kernel)
set_option maxRecDepth 20000 in
theorem gL_law_X6_init : GoodIn wsL_law (wsX6_init) := ggL_law_X6_init
set_option maxRecDepth 20000 in
theorem ggL_law_L_size : GoodIn wsL_law wsL_size := goodIn_ca (goodIn_r _ [103, 104, 105, 106, 107, 2, 108, 16, 25, 109, 110, 111, 112, 113, 114, 115, 116, 15, 117, 29, 30, 31, 34, 53, 54, 55, 56, 33, 57, 58, 59, 60, 61, 541, 542, 543, 544, 570, 571, 572, 573, 574, 575] (by decide +kernel) (by decide +kernel)) (goodIn_sub (fun _ h => List.mem_append_left _ (List.mem_append_left _ (List.mem_append_right _ h))) (by decide +kernel))
set_option maxRecDepth 20000 in
theorem gL_law_L_size : GoodIn wsL_law (va_wsS RL 60 yL_size wsL_size) := goodIn_app (goodIn_of _ (by decide +kernel)) ggL_law_L_size
set_option maxRecDepth 20000 in
theorem ggL_law_X6_size : GoodIn wsL_law wsX6_size := goodIn_r _ [121, 66, 67, 68, 69, 70, 83, 122, 123, 124, 5, 125, 126, 84, 85, 86, 87, 71, 72, 73, 74, 88, 89, 90, 91, 92, 93, 94, 95, 96, 97, 98, 99, 545, 546, 547, 548, 549, 550, 551, 552, 553, 554, 555, 556, 557, 558, 559, 560, 561, 562, 563, 564, 565, 566, 567, 568, 569] (by decide +kernel) (by decide +kernel)
set_option maxRecDepth 20000 in
theorem gL_law_X6_size : GoodIn wsL_law (wsV RL 65 RX6 yX6_size wsX6_size) := goodIn_app (goodIn_of _ (by decide +kernel)) ggL_law_X6_size
set_option maxRecDepth 20000 in
theorem ggL_law_X6_thrown : GoodIn wsL_law wsX6_thrown := goodIn_r _ [130, 126, 545, 546, 547, 548, 549, 550, 551, 552, 553, 554, 555, 556, 557, 558, 559, 560, 561, 562, 563, 564, 565, 566, 567, 568, 569] (by decide +kernel) (by decide +kernel)
set_option maxRecDepth 20000 in
theorem gL_law_X6_thrown : GoodIn wsL_law (wsV RL 66 RX6 yX6_thrown wsX6_thrown) := goodIn_app (goodIn_of _ (by decide +kernel)) ggL_law_X6_thrown

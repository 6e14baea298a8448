set_option maxRecDepth 20000 in
theorem ggL_law_X6_broken : GoodIn wsL_law wsX6_broken := goodIn_r _ [489, 83, 122, 123, 124, 5, 125, 126, 380, 381, 382, 383, 71, 98, 74, 99, 73, 72, 97, 88, 96, 90, 91, 368, 369, 370, 371, 66, 82, 67, 372, 373, 374, 375, 68, 376, 377, 378, 379, 545, 546, 547, 548, 549, 550, 551, 552, 553, 554, 555, 556, 557, 558, 559, 560, 561, 562, 563, 564, 565, 566, 567, 568, 569] (by decide +kernel) (by decide +kernel)
set_option maxRecDepth 20000 in
theorem gL_law_X6_broken : GoodIn wsL_law (wsV RL 96 RX6 yX6_broken wsX6_broken) := goodIn_app (goodIn_of _ (by decide +kernel)) ggL_law_X6_broken
set_option maxRecDepth 20000 in
theorem ggL_law_L_colour : GoodIn wsL_law wsL_colour := goodIn_ca (goodIn_r _ [492, 104, 493, 494, 495, 2, 496, 16, 138, 25, 109, 110, 111, 112, 113, 497, 301, 59, 302, 498, 304, 305, 306, 250, 251, 541, 542, 543, 544, 570, 571, 572, 573, 574, 575] (by decide +kernel) (by decide +kernel)) (goodIn_sub (fun _ h => List.mem_append_left _ (List.mem_append_left _ (List.mem_append_right _ h))) (by decide +kernel))
set_option maxRecDepth 20000 in
theorem gL_law_L_colour : GoodIn wsL_law (va_wsS RL 97 yL_colour wsL_colour) := goodIn_app (goodIn_of _ (by decide +kernel)) ggL_law_L_colour
set_option maxRecDepth 20000 in
theorem ggL_law_X6_colour : GoodIn wsL_law wsX6_colour := goodIn_r _ [502, 66, 83, 73, 122, 123, 124, 5, 125, 126, 380, 381, 382, 383, 71, 98, 74, 99, 72, 97, 88, 96, 90, 91, 545, 546, 547, 548, 549, 550, 551, 552, 553, 554, 555, 556, 557, 558, 559, 560, 561, 562, 563, 564, 565, 566, 567, 568, 569] (by decide +kernel) (by decide +kernel)
set_option maxRecDepth 20000 in
theorem gL_law_X6_colour : GoodIn wsL_law (wsV RL 99 RX6 yX6_colour wsX6_colour) := goodIn_app (goodIn_of _ (by decide +kernel)) ggL_law_X6_colour
set_option maxRecDepth 20000 in
theorem ggL_law_L_field : GoodIn wsL_law wsL_field := goodIn_ca (goodIn_r _ [505, 104, 506, 507, 508, 2, 509, 16, 138, 139, 25, 109, 110, 111, 112, 113, 510, 259, 59, 260, 146, 147, 148, 541, 542, 543, 544, 570, 571, 572, 573, 574, 575] (by decide +kernel) (by decide +kernel)) (goodIn_sub (fun _ h => List.mem_append_left _ (List.mem_append_left _ (List.mem_append_right _ h))) (by decide +kernel))
set_option maxRecDepth 20000 in
theorem gL_law_L_field : GoodIn wsL_law (va_wsS RL 100 yL_field wsL_field) := goodIn_app (goodIn_of _ (by decide +kernel)) ggL_law_L_field
set_option maxRecDepth 20000 in
theorem ggL_law_X6_field : GoodIn wsL_law wsX6_field := goodIn_r _ [514, 66, 67, 83, 71, 122, 123, 124, 5, 125, 126, 380, 381, 382, 383, 98, 74, 99, 73, 72, 97, 88, 96, 90, 91, 545, 546, 547, 548, 549, 550, 551, 552, 553, 554, 555, 556, 557, 558, 559, 560, 561, 562, 563, 564, 565, 566, 567, 568, 569] (by decide +kernel) (by decide +kernel)
set_option maxRecDepth 20000 in
theorem gL_law_X6_field : GoodIn wsL_law (wsV RL 103 RX6 yX6_field wsX6_field) := goodIn_app (goodIn_of _ (by decide +kernel)) ggL_law_X6_field

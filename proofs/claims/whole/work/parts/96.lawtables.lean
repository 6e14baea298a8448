set_option maxRecDepth 20000 in
theorem lt_r1 : ∀ w ∈ wsL_law0_r1, w ∈ lw_tbl := fun w h => (goodIn_p wsL_law0_r1 [53, 56] (by decide +kernel) (by decide +kernel) w h).1
set_option maxRecDepth 20000 in
theorem lt_r2 : ∀ w ∈ wsL_law0_r2, w ∈ lw_tbl := fun w h => (goodIn_p wsL_law0_r2 [61, 94, 104] (by decide +kernel) (by decide +kernel) w h).1
set_option maxRecDepth 20000 in
theorem lt_r3 : ∀ w ∈ wsL_law0_r3, w ∈ lw_tbl := fun w h => (goodIn_p wsL_law0_r3 [137, 140, 541] (by decide +kernel) (by decide +kernel) w h).1
set_option maxRecDepth 20000 in
theorem lt_r4 : ∀ w ∈ wsL_law0_r4, w ∈ lw_tbl := fun w h => (goodIn_p wsL_law0_r4 [547, 551] (by decide +kernel) (by decide +kernel) w h).1
set_option maxRecDepth 20000 in
theorem lt_r5 : ∀ w ∈ wsL_law0_r5, w ∈ lw_tbl := fun w h => (goodIn_p wsL_law0_r5 [277, 280, 352] (by decide +kernel) (by decide +kernel) w h).1
set_option maxRecDepth 20000 in
theorem lt_r6 : ∀ w ∈ wsL_law0_r6, w ∈ lw_tbl := fun w h => (goodIn_p wsL_law0_r6 [718, 640, 536, 359, 265] (by decide +kernel) (by decide +kernel) w h).1
set_option maxRecDepth 20000 in
theorem lt_r7 : ∀ w ∈ wsL_law0_r7, w ∈ lw_tbl := fun w h => (goodIn_p wsL_law0_r7 [209, 722, 726, 367, 243] (by decide +kernel) (by decide +kernel) w h).1
set_option maxRecDepth 20000 in
theorem lt_r8 : ∀ w ∈ wsL_law0_r8, w ∈ lw_tbl := fun w h => (goodIn_p wsL_law0_r8 [194, 730, 375, 734] (by decide +kernel) (by decide +kernel) w h).1
set_option maxRecDepth 20000 in
theorem lt_r9 : ∀ w ∈ wsL_law0_r9, w ∈ lw_tbl := fun w h => (goodIn_p wsL_law0_r9 [382, 386, 389, 393, 398] (by decide +kernel) (by decide +kernel) w h).1
set_option maxRecDepth 20000 in
theorem lt_r10 : ∀ w ∈ wsL_law0_r10, w ∈ lw_tbl := fun w h => (goodIn_p wsL_law0_r10 [402, 166, 169, 172, 176, 181] (by decide +kernel) (by decide +kernel) w h).1
set_option maxRecDepth 20000 in
theorem lt_r11 : ∀ w ∈ wsL_law0_r11, w ∈ lw_tbl := fun w h => (goodIn_p wsL_law0_r11 [184, 187, 191, 197, 200, 203, 206, 212] (by decide +kernel) (by decide +kernel) w h).1
set_option maxRecDepth 20000 in
theorem lt_r12 : ∀ w ∈ wsL_law0_r12, w ∈ lw_tbl := fun w h => (goodIn_p wsL_law0_r12 [215, 220, 223, 227, 230, 236] (by decide +kernel) (by decide +kernel) w h).1
set_option maxRecDepth 20000 in
theorem lt_r13 : ∀ w ∈ wsL_law0_r13, w ∈ lw_tbl := fun w h => (goodIn_p wsL_law0_r13 [240, 248, 252, 255, 258, 262] (by decide +kernel) (by decide +kernel) w h).1
set_option maxRecDepth 20000 in
theorem lt_r14 : ∀ w ∈ wsL_law0_r14, w ∈ lw_tbl := fun w h => (goodIn_p wsL_law0_r14 [269, 408, 412, 415, 418, 421, 424] (by decide +kernel) (by decide +kernel) w h).1
set_option maxRecDepth 20000 in
theorem lt_r15 : ∀ w ∈ wsL_law0_r15, w ∈ lw_tbl := fun w h => (goodIn_p wsL_law0_r15 [428, 432, 435, 440, 636] (by decide +kernel) (by decide +kernel) w h).1
set_option maxRecDepth 20000 in
theorem lt_r16 : ∀ w ∈ wsL_law0_r16, w ∈ lw_tbl := fun w h => (goodIn_p wsL_law0_r16 [644, 648, 654, 658, 662, 666] (by decide +kernel) (by decide +kernel) w h).1
set_option maxRecDepth 20000 in
theorem lt_r17 : ∀ w ∈ wsL_law0_r17, w ∈ lw_tbl := fun w h => (goodIn_p wsL_law0_r17 [670, 674, 678, 682, 686, 690] (by decide +kernel) (by decide +kernel) w h).1
set_option maxRecDepth 20000 in
theorem lt_r18 : ∀ w ∈ wsL_law0_r18, w ∈ lw_tbl := fun w h => (goodIn_p wsL_law0_r18 [694, 698, 702, 706, 710] (by decide +kernel) (by decide +kernel) w h).1
set_option maxRecDepth 20000 in
theorem lt_r19 : ∀ w ∈ wsL_law0_r19, w ∈ lw_tbl := fun w h => (goodIn_p wsL_law0_r19 [448, 714, 472] (by decide +kernel) (by decide +kernel) w h).1
set_option maxRecDepth 20000 in
theorem lt_r20 : ∀ w ∈ wsL_law0_r20, w ∈ lw_tbl := fun w h => (goodIn_p wsL_law0_r20 [162, 738, 742, 158, 746] (by decide +kernel) (by decide +kernel) w h).1
set_option maxRecDepth 20000 in
theorem lt_r21 : ∀ w ∈ wsL_law0_r21, w ∈ lw_tbl := fun w h => (goodIn_p wsL_law0_r21 [497, 750, 505, 754] (by decide +kernel) (by decide +kernel) w h).1
set_option maxRecDepth 20000 in
theorem lt_r22 : ∀ w ∈ wsL_law0_r22, w ∈ lw_tbl := fun w h => (goodIn_p wsL_law0_r22 [514, 758, 522, 762] (by decide +kernel) (by decide +kernel) w h).1
set_option maxRecDepth 20000 in
theorem lt_r23 : ∀ w ∈ wsL_law0_r23, w ∈ lw_tbl := fun w h => (goodIn_p wsL_law0_r23 [530, 766] (by decide +kernel) (by decide +kernel) w h).1
set_option maxRecDepth 20000 in
theorem lt_X5 : ∀ w ∈ wsX50, w ∈ lw_tbl := by decide +kernel
set_option maxRecDepth 20000 in
theorem lt_X6 : ∀ w ∈ wsX60, w ∈ lw_tbl := by decide +kernel
set_option maxRecDepth 20000 in
theorem lt_X3 : ∀ w ∈ wsX30, w ∈ lw_tbl := by decide +kernel
set_option maxRecDepth 20000 in
theorem lt_X1 : ∀ w ∈ wsX10, w ∈ lw_tbl := by decide +kernel
set_option maxRecDepth 20000 in
theorem lt_X2 : ∀ w ∈ wsX20, w ∈ lw_tbl := by decide +kernel
theorem wsL_law_in0 : ∀ w ∈ wsL_law0, w ∈ lw_tbl := (fun w h => (List.mem_append.mp h).elim ((fun w h => (List.mem_append.mp h).elim ((fun w h => (List.mem_append.mp h).elim ((fun w h => (List.mem_append.mp h).elim ((fun w h => (List.mem_append.mp h).elim ((fun w h => (List.mem_append.mp h).elim ((fun w h => (List.mem_append.mp h).elim (lt_r1 w) ((fun w h => (List.mem_append.mp h).elim (lt_r2 w) ((fun w h => (List.mem_append.mp h).elim (lt_r3 w) ((fun w h => (List.mem_append.mp h).elim (lt_r4 w) ((fun w h => (List.mem_append.mp h).elim (lt_r5 w) ((fun w h => (List.mem_append.mp h).elim (lt_r6 w) ((fun w h => (List.mem_append.mp h).elim (lt_r7 w) ((fun w h => (List.mem_append.mp h).elim (lt_r8 w) ((fun w h => (List.mem_append.mp h).elim (lt_r9 w) ((fun w h => (List.mem_append.mp h).elim (lt_r10 w) ((fun w h => (List.mem_append.mp h).elim (lt_r11 w) ((fun w h => (List.mem_append.mp h).elim (lt_r12 w) ((fun w h => (List.mem_append.mp h).elim (lt_r13 w) ((fun w h => (List.mem_append.mp h).elim (lt_r14 w) ((fun w h => (List.mem_append.mp h).elim (lt_r15 w) ((fun w h => (List.mem_append.mp h).elim (lt_r16 w) ((fun w h => (List.mem_append.mp h).elim (lt_r17 w) ((fun w h => (List.mem_append.mp h).elim (lt_r18 w) ((fun w h => (List.mem_append.mp h).elim (lt_r19 w) ((fun w h => (List.mem_append.mp h).elim (lt_r20 w) ((fun w h => (List.mem_append.mp h).elim (lt_r21 w) ((fun w h => (List.mem_append.mp h).elim (lt_r22 w) (lt_r23 w)) w)) w)) w)) w)) w)) w)) w)) w)) w)) w)) w)) w)) w)) w)) w)) w)) w)) w)) w)) w)) w)) w) (lt_X5 w)) w) (lt_X6 w)) w) (lt_X3 w)) w) (lt_X1 w)) w) (lt_X2 w)) w) ((fun _ h => absurd h List.not_mem_nil) w))
set_option maxRecDepth 20000 in
theorem wsL_law_x0 : ∀ w ∈ (vx_atS RX5 144 "java/lang/IllegalArgumentException" ["java/lang/RuntimeException", "java/lang/Exception"]).filter goodWord, w ∈ lw_tbl := by decide +kernel
set_option maxRecDepth 20000 in
theorem wsL_law_x1 : ∀ w ∈ (vx_atS RX5 89 "java/lang/IndexOutOfBoundsException" ["java/lang/RuntimeException", "java/lang/Exception"]).filter goodWord, w ∈ lw_tbl := by decide +kernel
set_option maxRecDepth 20000 in
theorem wsL_law_x2 : ∀ w ∈ (vx_atS RX5 106 "java/lang/IllegalStateException" ["java/lang/RuntimeException", "java/lang/Exception"]).filter goodWord, w ∈ lw_tbl := by decide +kernel
theorem wsL_law_in : ∀ w ∈ wsL_law, w ∈ lw_tbl := fun w h => (List.mem_append.mp h).elim (fun h => (List.mem_append.mp h).elim (fun h => (List.mem_append.mp h).elim (fun h => wsL_law_in0 w h) (fun h => wsL_law_x0 w h)) (fun h => wsL_law_x1 w h)) (fun h => wsL_law_x2 w h)
set_option maxRecDepth 20000 in
theorem inX0 : ∀ w ∈ wsX00, w ∈ lw_tbl := by decide +kernel
theorem inlX1 : ∀ w ∈ wsX10, w ∈ wsL_law := fun _ h => List.mem_append_left _ (List.mem_append_left _ (List.mem_append_left _ (List.mem_append_left _ (List.mem_append_left _ (List.mem_append_right _ h)))))
theorem inX1 : ∀ w ∈ wsX10, w ∈ lw_tbl := fun w h => wsL_law_in w (inlX1 w h)
theorem inlX2 : ∀ w ∈ wsX20, w ∈ wsL_law := fun _ h => List.mem_append_left _ (List.mem_append_left _ (List.mem_append_left _ (List.mem_append_left _ (List.mem_append_right _ h))))
theorem inX2 : ∀ w ∈ wsX20, w ∈ lw_tbl := fun w h => wsL_law_in w (inlX2 w h)
theorem inlX3 : ∀ w ∈ wsX30, w ∈ wsL_law := fun _ h => List.mem_append_left _ (List.mem_append_left _ (List.mem_append_left _ (List.mem_append_left _ (List.mem_append_left _ (List.mem_append_left _ (List.mem_append_right _ h))))))
theorem inX3 : ∀ w ∈ wsX30, w ∈ lw_tbl := fun w h => wsL_law_in w (inlX3 w h)
set_option maxRecDepth 20000 in
theorem inX4 : ∀ w ∈ wsX40, w ∈ lw_tbl := by decide +kernel
theorem inlX5 : ∀ w ∈ wsX50, w ∈ wsL_law := fun _ h => List.mem_append_left _ (List.mem_append_left _ (List.mem_append_left _ (List.mem_append_left _ (List.mem_append_left _ (List.mem_append_left _ (List.mem_append_left _ (List.mem_append_left _ (List.mem_append_right _ h))))))))
theorem inX5 : ∀ w ∈ wsX50, w ∈ lw_tbl := fun w h => wsL_law_in w (inlX5 w h)
theorem inlX6 : ∀ w ∈ wsX60, w ∈ wsL_law := fun _ h => List.mem_append_left _ (List.mem_append_left _ (List.mem_append_left _ (List.mem_append_left _ (List.mem_append_left _ (List.mem_append_left _ (List.mem_append_left _ (List.mem_append_right _ h)))))))
theorem inX6 : ∀ w ∈ wsX60, w ∈ lw_tbl := fun w h => wsL_law_in w (inlX6 w h)
set_option maxRecDepth 20000 in
theorem inJ0 : ∀ w ∈ wsJ00, w ∈ lw_tbl := by decide +kernel
set_option maxRecDepth 20000 in
theorem inJ7 : ∀ w ∈ wsJ70, w ∈ lw_tbl := by decide +kernel

theorem inlX0 : ∀ w ∈ wsX00, w ∈ wsL_law := fun _ h => List.mem_append_left _ (List.mem_append_left _ (List.mem_append_left _ (List.mem_append_left _ (List.mem_append_right _ h))))
theorem inX0 : ∀ w ∈ wsX00, w ∈ lw_tbl := fun w h => wsL_law_in w (inlX0 w h)
theorem inlX1 : ∀ w ∈ wsX10, w ∈ wsL_law := fun _ h => List.mem_append_left _ (List.mem_append_left _ (List.mem_append_left _ (List.mem_append_left _ (List.mem_append_left _ (List.mem_append_left _ (List.mem_append_left _ (List.mem_append_right _ h)))))))
theorem inX1 : ∀ w ∈ wsX10, w ∈ lw_tbl := fun w h => wsL_law_in w (inlX1 w h)
theorem inlX2 : ∀ w ∈ wsX20, w ∈ wsL_law := fun _ h => List.mem_append_left _ (List.mem_append_left _ (List.mem_append_left _ (List.mem_append_left _ (List.mem_append_left _ (List.mem_append_right _ h)))))
theorem inX2 : ∀ w ∈ wsX20, w ∈ lw_tbl := fun w h => wsL_law_in w (inlX2 w h)
theorem inlX3 : ∀ w ∈ wsX30, w ∈ wsL_law := fun _ h => List.mem_append_left _ (List.mem_append_left _ (List.mem_append_left _ (List.mem_append_left _ (List.mem_append_left _ (List.mem_append_left _ (List.mem_append_right _ h))))))
theorem inX3 : ∀ w ∈ wsX30, w ∈ lw_tbl := fun w h => wsL_law_in w (inlX3 w h)
theorem inlX4 : ∀ w ∈ wsX40, w ∈ wsL_law := fun _ h => List.mem_append_left _ (List.mem_append_left _ (List.mem_append_left _ (List.mem_append_left _ (List.mem_append_left _ (List.mem_append_left _ (List.mem_append_left _ (List.mem_append_left _ (List.mem_append_left _ (List.mem_append_right _ h)))))))))
theorem inX4 : ∀ w ∈ wsX40, w ∈ lw_tbl := fun w h => wsL_law_in w (inlX4 w h)
theorem inlX5 : ∀ w ∈ wsX50, w ∈ wsL_law := fun _ h => List.mem_append_left _ (List.mem_append_left _ (List.mem_append_left _ (List.mem_append_left _ (List.mem_append_left _ (List.mem_append_left _ (List.mem_append_left _ (List.mem_append_left _ (List.mem_append_right _ h))))))))
theorem inX5 : ∀ w ∈ wsX50, w ∈ lw_tbl := fun w h => wsL_law_in w (inlX5 w h)
set_option maxRecDepth 20000 in
theorem ggL_law_X4_init : GoodIn wsL_law wsX4_init := goodIn_r _ [9, 10, 11, 12, 13, 14, 15, 16, 17, 18, 19, 20, 21, 22, 23, 24, 25, 26, 27, 28, 29, 30, 31, 32, 33, 34, 35, 36, 37, 38, 39, 40, 41, 42, 43, 44, 45, 545, 546, 547, 548, 520, 521, 522, 523, 549, 550, 551, 552, 553, 554] (by decide +kernel) (by decide +kernel)
set_option maxRecDepth 20000 in
theorem gL_law_X4_init : GoodIn wsL_law (wsX4_init) := ggL_law_X4_init
set_option maxRecDepth 20000 in
theorem ggL_law_X5_init : GoodIn wsL_law wsX5_init := goodIn_r _ [48, 49, 11, 12, 29, 50, 51, 52, 53, 54, 55, 56, 57, 58, 59, 60, 61, 62, 63, 64, 65, 66, 67, 524, 525, 526, 527, 528, 529, 530, 531, 532, 533, 534, 535, 536, 537, 538, 539, 540, 541, 542, 543, 544] (by decide +kernel) (by decide +kernel)
set_option maxRecDepth 20000 in
theorem gL_law_X5_init : GoodIn wsL_law (wsX5_init) := ggL_law_X5_init
set_option maxRecDepth 20000 in
theorem ggL_law_L_change : GoodIn wsL_law wsL_change := goodIn_ca (goodIn_ca (goodIn_ca (goodIn_r _ [71, 72, 73, 74, 75, 76, 77, 2, 78, 79, 80, 81, 82, 16, 83, 84, 85, 86, 87, 88, 89, 90, 15, 91, 30, 92, 93, 94, 95, 96, 31, 32, 520, 521, 522, 523, 545, 546, 547, 548] (by decide +kernel) (by decide +kernel)) (goodIn_sub (fun _ h => List.mem_append_left _ (List.mem_append_left _ (List.mem_append_right _ h))) (by decide +kernel))) (goodIn_sub (fun _ h => List.mem_append_left _ (List.mem_append_right _ h)) (by decide +kernel))) (goodIn_sub (fun _ h => List.mem_append_right _ h) (by decide +kernel))
set_option maxRecDepth 20000 in
theorem gL_law_L_change : GoodIn wsL_law (va_wsS RL 78 yL_change wsL_change) := goodIn_app (goodIn_of _ (by decide +kernel)) ggL_law_L_change
set_option maxRecDepth 20000 in
theorem ggL_law_X5_change : GoodIn wsL_law wsX5_change := goodIn_r _ [100, 101, 50, 51, 102, 103, 5, 104, 105, 106, 107, 108, 109, 110, 111, 112, 524, 525, 526, 527, 528, 529, 530, 531, 532, 533, 534, 535, 536, 537, 538, 539, 540, 541, 542, 543, 544] (by decide +kernel) (by decide +kernel)
set_option maxRecDepth 20000 in
theorem gL_law_X5_change : GoodIn wsL_law (wsV RL 83 RX5 yX5_change wsX5_change) := goodIn_app (goodIn_of _ (by decide +kernel)) ggL_law_X5_change
set_option maxRecDepth 20000 in
theorem ggL_law_X5_thrown : GoodIn wsL_law wsX5_thrown := goodIn_r _ [116, 112, 524, 525, 526, 527, 528, 529, 530, 531, 532, 533, 534, 535, 536, 537, 538, 539, 540, 541, 542, 543, 544] (by decide +kernel) (by decide +kernel)
set_option maxRecDepth 20000 in
theorem gL_law_X5_thrown : GoodIn wsL_law (wsV RL 84 RX5 yX5_thrown wsX5_thrown) := goodIn_app (goodIn_of _ (by decide +kernel)) ggL_law_X5_thrown
set_option maxRecDepth 20000 in
theorem ggL_law_L_pass : GoodIn wsL_law wsL_pass := goodIn_ca (goodIn_ca (goodIn_r _ [119, 73, 74, 120, 121, 122, 2, 123, 79, 80, 81, 82, 25, 520, 521, 522, 523] (by decide +kernel) (by decide +kernel)) (goodIn_sub (fun _ h => List.mem_append_left _ (List.mem_append_left _ (List.mem_append_right _ h))) (by decide +kernel))) (goodIn_sub (fun _ h => List.mem_append_left _ (List.mem_append_right _ h)) (by decide +kernel))
set_option maxRecDepth 20000 in
theorem gL_law_L_pass : GoodIn wsL_law (va_wsS RL 87 yL_pass wsL_pass) := goodIn_app (goodIn_of _ (by decide +kernel)) ggL_law_L_pass
set_option maxRecDepth 20000 in
theorem ggL_law_X5_pass : GoodIn wsL_law wsX5_pass := goodIn_r _ [127, 128, 105, 106, 5, 107, 108, 109, 110, 111, 112, 524, 525, 526, 527, 528, 529, 530, 531, 532, 533, 534, 535, 536, 537, 538, 539, 540, 541, 542, 543, 544] (by decide +kernel) (by decide +kernel)
set_option maxRecDepth 20000 in
theorem gL_law_X5_pass : GoodIn wsL_law (wsV RL 90 RX5 yX5_pass wsX5_pass) := goodIn_app (goodIn_of _ (by decide +kernel)) ggL_law_X5_pass
set_option maxRecDepth 20000 in
theorem ggL_law_L_full : GoodIn wsL_law wsL_full := goodIn_ca (goodIn_r _ [131, 74, 132, 133, 134, 2, 135, 81, 82, 20, 136, 137, 138, 25, 16, 139, 140, 141, 142, 11, 12, 29, 143, 144, 145, 146, 147, 148, 149, 150, 15, 151, 30, 152, 153, 154, 155, 156, 157, 158, 159, 19, 160, 161, 37, 520, 521, 522, 523, 549, 550, 551, 552, 553, 555, 556, 557, 558, 559, 560, 561, 562, 563, 564, 565, 545, 546, 547, 548] (by decide +kernel) (by decide +kernel)) (goodIn_sub (fun _ h => List.mem_append_left _ (List.mem_append_right _ h)) (by decide +kernel))
set_option maxRecDepth 20000 in
theorem gL_law_L_full : GoodIn wsL_law (va_wsS RL 91 yL_full wsL_full) := goodIn_app (goodIn_of _ (by decide +kernel)) ggL_law_L_full
set_option maxRecDepth 20000 in
theorem ggL_law_X5_full : GoodIn wsL_law wsX5_full := goodIn_r _ [165, 166, 108, 109, 110, 5, 111, 112, 167, 168, 169, 170, 52, 128, 53, 55, 101, 51, 56, 50, 54, 58, 524, 525, 526, 527, 528, 529, 530, 531, 532, 533, 534, 535, 536, 537, 538, 539, 540, 541, 542, 543, 544] (by decide +kernel) (by decide +kernel)
set_option maxRecDepth 20000 in
theorem gL_law_X5_full : GoodIn wsL_law (wsV RL 94 RX5 yX5_full wsX5_full) := goodIn_app (goodIn_of _ (by decide +kernel)) ggL_law_X5_full
set_option maxRecDepth 20000 in
theorem ggL_law_L_increment : GoodIn wsL_law wsL_increment := goodIn_ca (goodIn_r _ [173, 74, 174, 175, 176, 2, 177, 81, 82, 20, 136, 137, 138, 25, 16, 178, 179, 180, 19, 181, 37, 139, 140, 141, 142, 11, 12, 29, 143, 144, 145, 146, 147, 182, 183, 184, 15, 185, 186, 187, 188, 189, 96, 31, 190, 89, 90, 91, 30, 152, 153, 154, 155, 156, 157, 158, 159, 160, 161, 520, 521, 522, 523, 549, 550, 551, 552, 553, 555, 556, 557, 558, 559, 560, 561, 562, 563, 564, 565, 545, 546, 547, 548] (by decide +kernel) (by decide +kernel)) (goodIn_sub (fun _ h => List.mem_append_left _ (List.mem_append_right _ h)) (by decide +kernel))
set_option maxRecDepth 20000 in
theorem gL_law_L_increment : GoodIn wsL_law (va_wsS RL 95 yL_increment wsL_increment) := goodIn_app (goodIn_of _ (by decide +kernel)) ggL_law_L_increment
set_option maxRecDepth 20000 in
theorem ggL_law_X5_increment : GoodIn wsL_law wsX5_increment := goodIn_r _ [194, 166, 195, 196, 197, 5, 198, 58, 108, 109, 110, 111, 112, 167, 168, 169, 170, 52, 128, 53, 55, 101, 51, 56, 50, 54, 524, 525, 526, 527, 528, 529, 530, 531, 532, 533, 534, 535, 536, 537, 538, 539, 540, 541, 542, 543, 544] (by decide +kernel) (by decide +kernel)
set_option maxRecDepth 20000 in
theorem gL_law_X5_increment : GoodIn wsL_law (wsV RL 97 RX5 yX5_increment wsX5_increment) := goodIn_app (goodIn_of _ (by decide +kernel)) ggL_law_X5_increment
set_option maxRecDepth 20000 in
theorem ggL_law_L_damage : GoodIn wsL_law wsL_damage := goodIn_ca (goodIn_r _ [201, 72, 202, 203, 204, 2, 205, 20, 206, 207, 208, 209, 86, 87, 210, 211, 212, 19, 213, 37, 214, 215, 216, 217, 218, 219, 220, 221, 38, 39, 40, 222, 223, 224, 225, 226, 227, 228, 138, 229, 145, 230, 231, 232, 233, 234, 146, 235, 236, 237, 238, 239, 555, 556, 557, 558, 559, 560, 561, 562, 563, 564, 565, 520, 521, 522, 523, 549, 550, 551, 552, 553] (by decide +kernel) (by decide +kernel)) (goodIn_sub (fun _ h => List.mem_append_right _ h) (by decide +kernel))
set_option maxRecDepth 20000 in
theorem gL_law_L_damage : GoodIn wsL_law (va_wsS RL 98 yL_damage wsL_damage) := goodIn_app (goodIn_of _ (by decide +kernel)) ggL_law_L_damage
set_option maxRecDepth 20000 in
theorem ggL_law_X5_damage : GoodIn wsL_law wsX5_damage := goodIn_r _ [243, 59, 60, 166, 64, 244, 245, 246, 5, 247, 58, 105, 106, 107, 108, 109, 110, 111, 112, 248, 249, 250, 251, 65, 61, 62, 63, 53, 252, 253, 254, 255, 52, 256, 257, 258, 259, 524, 525, 526, 527, 528, 529, 530, 531, 532, 533, 534, 535, 536, 537, 538, 539, 540, 541, 542, 543, 544] (by decide +kernel) (by decide +kernel)
set_option maxRecDepth 20000 in
theorem gL_law_X5_damage : GoodIn wsL_law (wsV RL 100 RX5 yX5_damage wsX5_damage) := goodIn_app (goodIn_of _ (by decide +kernel)) ggL_law_X5_damage
set_option maxRecDepth 20000 in
theorem ggL_law_L_drill : GoodIn wsL_law wsL_drill := goodIn_ca (goodIn_r _ [262, 72, 263, 264, 265, 2, 266, 206, 207, 208, 209, 86, 87, 20, 210, 211, 212, 19, 213, 37, 267, 236, 237, 138, 238, 239, 146, 268, 269, 270, 271, 272, 273, 274, 275, 276, 520, 521, 522, 523, 549, 550, 551, 552, 553, 555, 556, 557, 558, 559, 560, 561, 562, 563, 564, 565] (by decide +kernel) (by decide +kernel)) (goodIn_sub (fun _ h => List.mem_append_right _ h) (by decide +kernel))
set_option maxRecDepth 20000 in
theorem gL_law_L_drill : GoodIn wsL_law (va_wsS RL 101 yL_drill wsL_drill) := goodIn_app (goodIn_of _ (by decide +kernel)) ggL_law_L_drill
set_option maxRecDepth 20000 in
theorem ggL_law_X5_drill : GoodIn wsL_law wsX5_drill := goodIn_r _ [280, 60, 53, 244, 245, 246, 5, 247, 166, 58, 105, 106, 107, 108, 109, 110, 111, 112, 256, 257, 258, 259, 59, 524, 525, 526, 527, 528, 529, 530, 531, 532, 533, 534, 535, 536, 537, 538, 539, 540, 541, 542, 543, 544] (by decide +kernel) (by decide +kernel)
set_option maxRecDepth 20000 in
theorem gL_law_X5_drill : GoodIn wsL_law (wsV RL 103 RX5 yX5_drill wsX5_drill) := goodIn_app (goodIn_of _ (by decide +kernel)) ggL_law_X5_drill
set_option maxRecDepth 20000 in
theorem ggL_law_L_setRules : GoodIn wsL_law wsL_setRules := goodIn_ca (goodIn_r _ [283, 73, 284, 285, 286, 2, 287, 79, 80, 20, 288, 289, 290, 19, 291, 37, 218, 219, 220, 221, 38, 39, 40, 222, 223, 224, 225, 226, 227, 228, 138, 229, 145, 230, 231, 232, 233, 234, 146, 520, 521, 522, 523, 549, 550, 551, 552, 553, 555, 556, 557, 558, 559, 560, 561, 562, 563, 564, 565] (by decide +kernel) (by decide +kernel)) (goodIn_sub (fun _ h => List.mem_append_left _ (List.mem_append_left _ (List.mem_append_right _ h))) (by decide +kernel))
set_option maxRecDepth 20000 in
theorem gL_law_L_setRules : GoodIn wsL_law (va_wsS RL 104 yL_setRules wsL_setRules) := goodIn_app (goodIn_of _ (by decide +kernel)) ggL_law_L_setRules
set_option maxRecDepth 20000 in
theorem ggL_law_X5_setRules : GoodIn wsL_law wsX5_setRules := goodIn_r _ [295, 61, 62, 63, 105, 106, 5, 107, 108, 109, 110, 111, 112, 248, 249, 250, 251, 166, 64, 65, 53, 252, 253, 254, 255, 58, 52, 524, 525, 526, 527, 528, 529, 530, 531, 532, 533, 534, 535, 536, 537, 538, 539, 540, 541, 542, 543, 544] (by decide +kernel) (by decide +kernel)
set_option maxRecDepth 20000 in
theorem gL_law_X5_setRules : GoodIn wsL_law (wsV RL 107 RX5 yX5_setRules wsX5_setRules) := goodIn_app (goodIn_of _ (by decide +kernel)) ggL_law_X5_setRules
set_option maxRecDepth 20000 in
theorem ggL_law_X4_thin : GoodIn wsL_law wsX4_thin := goodIn_r _ [299, 20, 300, 301, 302, 19, 303, 37, 218, 219, 220, 221, 38, 39, 40, 222, 223, 224, 225, 226, 227, 228, 138, 229, 145, 230, 231, 232, 233, 234, 146, 304, 305, 306, 307, 308, 187, 188, 189, 309, 310, 311, 312, 313, 314, 315, 316, 156, 520, 521, 522, 523, 549, 550, 551, 552, 553, 555, 556, 557, 558, 559, 560, 561, 562, 563, 564, 565] (by decide +kernel) (by decide +kernel)
set_option maxRecDepth 20000 in
theorem gL_law_X4_thin : GoodIn wsL_law (wsV RL 108 RX4 yX4_thin wsX4_thin) := goodIn_app (goodIn_of _ (by decide +kernel)) ggL_law_X4_thin
set_option maxRecDepth 20000 in
theorem ggL_law_X5_thin : GoodIn wsL_law wsX5_thin := goodIn_r _ [320, 112, 166, 58, 60, 52, 66, 65, 53, 54, 248, 249, 250, 5, 251, 64, 61, 62, 63, 252, 253, 254, 255, 524, 525, 526, 527, 528, 529, 530, 531, 532, 533, 534, 535, 536, 537, 538, 539, 540, 541, 542, 543, 544] (by decide +kernel) (by decide +kernel)
set_option maxRecDepth 20000 in
theorem gL_law_X5_thin : GoodIn wsL_law (wsV RL 111 RX5 yX5_thin wsX5_thin) := goodIn_app (goodIn_of _ (by decide +kernel)) ggL_law_X5_thin
set_option maxRecDepth 20000 in
theorem ggL_law_X4_day : GoodIn wsL_law wsX4_day := goodIn_r _ [324, 25, 520, 521, 522, 523] (by decide +kernel) (by decide +kernel)
set_option maxRecDepth 20000 in
theorem gL_law_X4_day : GoodIn wsL_law (wsV RL 112 RX4 yX4_day wsX4_day) := goodIn_app (goodIn_of _ (by decide +kernel)) ggL_law_X4_day
set_option maxRecDepth 20000 in
theorem ggL_law_X5_day : GoodIn wsL_law wsX5_day := goodIn_r _ [328, 112, 128, 524, 525, 526, 527, 528, 529, 530, 531, 532, 533, 534, 535, 536, 537, 538, 539, 540, 541, 542, 543, 544] (by decide +kernel) (by decide +kernel)
set_option maxRecDepth 20000 in
theorem gL_law_X5_day : GoodIn wsL_law (wsV RL 115 RX5 yX5_day wsX5_day) := goodIn_app (goodIn_of _ (by decide +kernel)) ggL_law_X5_day
set_option maxRecDepth 20000 in
theorem ggL_law_X4_copies : GoodIn wsL_law wsX4_copies := goodIn_r _ [332, 20, 333, 334, 335, 19, 336, 37, 520, 521, 522, 523, 549, 550, 551, 552, 553] (by decide +kernel) (by decide +kernel)
set_option maxRecDepth 20000 in
theorem gL_law_X4_copies : GoodIn wsL_law (wsV RL 116 RX4 yX4_copies wsX4_copies) := goodIn_app (goodIn_of _ (by decide +kernel)) ggL_law_X4_copies
set_option maxRecDepth 20000 in
theorem ggL_law_X5_copies : GoodIn wsL_law wsX5_copies := goodIn_r _ [340, 112, 166, 58, 524, 525, 526, 527, 528, 529, 530, 531, 532, 533, 534, 535, 536, 537, 538, 539, 540, 541, 542, 543, 544] (by decide +kernel) (by decide +kernel)
set_option maxRecDepth 20000 in
theorem gL_law_X5_copies : GoodIn wsL_law (wsV RL 119 RX5 yX5_copies wsX5_copies) := goodIn_app (goodIn_of _ (by decide +kernel)) ggL_law_X5_copies
set_option maxRecDepth 20000 in
theorem ggL_law_X4_space : GoodIn wsL_law wsX4_space := goodIn_r _ [344, 20, 345, 346, 347, 19, 348, 37, 313, 314, 315, 138, 316, 156, 520, 521, 522, 523, 549, 550, 551, 552, 553, 555, 556, 557, 558, 559, 560, 561, 562, 563, 564, 565] (by decide +kernel) (by decide +kernel)
set_option maxRecDepth 20000 in
theorem gL_law_X4_space : GoodIn wsL_law (wsV RL 120 RX4 yX4_space wsX4_space) := goodIn_app (goodIn_of _ (by decide +kernel)) ggL_law_X4_space
set_option maxRecDepth 20000 in
theorem ggL_law_X5_space : GoodIn wsL_law wsX5_space := goodIn_r _ [352, 112, 166, 58, 54, 524, 525, 526, 527, 528, 529, 530, 531, 532, 533, 534, 535, 536, 537, 538, 539, 540, 541, 542, 543, 544] (by decide +kernel) (by decide +kernel)
set_option maxRecDepth 20000 in
theorem gL_law_X5_space : GoodIn wsL_law (wsV RL 123 RX5 yX5_space wsX5_space) := goodIn_app (goodIn_of _ (by decide +kernel)) ggL_law_X5_space
set_option maxRecDepth 20000 in
theorem ggL_law_L_dayOf : GoodIn wsL_law wsL_dayOf := goodIn_ca (goodIn_r _ [355, 72, 356, 357, 358, 2, 359, 206, 207, 208, 209, 86, 87, 20, 210, 211, 212, 19, 213, 37, 555, 556, 557, 558, 559, 560, 561, 562, 563, 564, 565, 520, 521, 522, 523, 549, 550, 551, 552, 553] (by decide +kernel) (by decide +kernel)) (goodIn_sub (fun _ h => List.mem_append_right _ h) (by decide +kernel))
set_option maxRecDepth 20000 in
theorem gL_law_L_dayOf : GoodIn wsL_law (va_wsS RL 124 yL_dayOf wsL_dayOf) := goodIn_app (goodIn_of _ (by decide +kernel)) ggL_law_L_dayOf
set_option maxRecDepth 20000 in
theorem ggL_law_X5_dayOf : GoodIn wsL_law wsX5_dayOf := goodIn_r _ [363, 52, 244, 245, 246, 5, 247, 166, 58, 105, 106, 107, 108, 109, 110, 111, 112, 524, 525, 526, 527, 528, 529, 530, 531, 532, 533, 534, 535, 536, 537, 538, 539, 540, 541, 542, 543, 544] (by decide +kernel) (by decide +kernel)
set_option maxRecDepth 20000 in
theorem gL_law_X5_dayOf : GoodIn wsL_law (wsV RL 126 RX5 yX5_dayOf wsX5_dayOf) := goodIn_app (goodIn_of _ (by decide +kernel)) ggL_law_X5_dayOf
set_option maxRecDepth 20000 in
theorem ggL_law_L_baseOf : GoodIn wsL_law wsL_baseOf := goodIn_ca (goodIn_r _ [366, 72, 367, 368, 369, 2, 370, 206, 207, 208, 209, 86, 87, 20, 210, 211, 212, 19, 213, 37, 555, 556, 557, 558, 559, 560, 561, 562, 563, 564, 565, 520, 521, 522, 523, 549, 550, 551, 552, 553] (by decide +kernel) (by decide +kernel)) (goodIn_sub (fun _ h => List.mem_append_right _ h) (by decide +kernel))
set_option maxRecDepth 20000 in
theorem gL_law_L_baseOf : GoodIn wsL_law (va_wsS RL 127 yL_baseOf wsL_baseOf) := goodIn_app (goodIn_of _ (by decide +kernel)) ggL_law_L_baseOf
set_option maxRecDepth 20000 in
theorem ggL_law_X5_baseOf : GoodIn wsL_law wsX5_baseOf := goodIn_r _ [374, 53, 244, 245, 246, 5, 247, 166, 58, 105, 106, 107, 108, 109, 110, 111, 112, 524, 525, 526, 527, 528, 529, 530, 531, 532, 533, 534, 535, 536, 537, 538, 539, 540, 541, 542, 543, 544] (by decide +kernel) (by decide +kernel)
set_option maxRecDepth 20000 in
theorem gL_law_X5_baseOf : GoodIn wsL_law (wsV RL 129 RX5 yX5_baseOf wsX5_baseOf) := goodIn_app (goodIn_of _ (by decide +kernel)) ggL_law_X5_baseOf
set_option maxRecDepth 20000 in
theorem ggL_law_L_keeps : GoodIn wsL_law wsL_keeps := goodIn_ca (goodIn_r _ [377, 72, 378, 379, 380, 2, 381, 206, 207, 208, 209, 86, 87, 20, 210, 211, 212, 19, 213, 37, 555, 556, 557, 558, 559, 560, 561, 562, 563, 564, 565, 520, 521, 522, 523, 549, 550, 551, 552, 553] (by decide +kernel) (by decide +kernel)) (goodIn_sub (fun _ h => List.mem_append_right _ h) (by decide +kernel))
set_option maxRecDepth 20000 in
theorem gL_law_L_keeps : GoodIn wsL_law (va_wsS RL 130 yL_keeps wsL_keeps) := goodIn_app (goodIn_of _ (by decide +kernel)) ggL_law_L_keeps
set_option maxRecDepth 20000 in
theorem ggL_law_X5_keeps : GoodIn wsL_law wsX5_keeps := goodIn_r _ [385, 54, 244, 245, 246, 5, 247, 166, 58, 105, 106, 107, 108, 109, 110, 111, 112, 524, 525, 526, 527, 528, 529, 530, 531, 532, 533, 534, 535, 536, 537, 538, 539, 540, 541, 542, 543, 544] (by decide +kernel) (by decide +kernel)
set_option maxRecDepth 20000 in
theorem gL_law_X5_keeps : GoodIn wsL_law (wsV RL 132 RX5 yX5_keeps wsX5_keeps) := goodIn_app (goodIn_of _ (by decide +kernel)) ggL_law_X5_keeps
set_option maxRecDepth 20000 in
theorem ggL_law_L_isPromised : GoodIn wsL_law wsL_isPromised := goodIn_ca (goodIn_r _ [388, 72, 389, 390, 391, 2, 392, 20, 206, 207, 208, 209, 86, 87, 210, 211, 212, 19, 213, 37, 393, 219, 220, 221, 38, 39, 40, 222, 223, 224, 225, 226, 227, 228, 138, 229, 145, 230, 231, 232, 233, 234, 146, 520, 521, 522, 523, 555, 556, 557, 558, 559, 560, 561, 562, 563, 564, 565, 549, 550, 551, 552, 553] (by decide +kernel) (by decide +kernel)) (goodIn_sub (fun _ h => List.mem_append_right _ h) (by decide +kernel))
set_option maxRecDepth 20000 in
theorem gL_law_L_isPromised : GoodIn wsL_law (va_wsS RL 133 yL_isPromised wsL_isPromised) := goodIn_app (goodIn_of _ (by decide +kernel)) ggL_law_L_isPromised
set_option maxRecDepth 20000 in
theorem ggL_law_X5_isPromised : GoodIn wsL_law wsX5_isPromised := goodIn_r _ [397, 64, 248, 249, 250, 5, 251, 166, 65, 61, 62, 63, 53, 252, 253, 254, 255, 58, 52, 244, 245, 246, 247, 105, 106, 107, 108, 109, 110, 111, 112, 524, 525, 526, 527, 528, 529, 530, 531, 532, 533, 534, 535, 536, 537, 538, 539, 540, 541, 542, 543, 544] (by decide +kernel) (by decide +kernel)
set_option maxRecDepth 20000 in
theorem gL_law_X5_isPromised : GoodIn wsL_law (wsV RL 135 RX5 yX5_isPromised wsX5_isPromised) := goodIn_app (goodIn_of _ (by decide +kernel)) ggL_law_X5_isPromised
set_option maxRecDepth 20000 in
theorem ggL_law_L_isNeeded : GoodIn wsL_law wsL_isNeeded := goodIn_ca (goodIn_r _ [400, 72, 401, 402, 403, 2, 404, 20, 206, 207, 208, 209, 86, 87, 210, 211, 212, 19, 213, 37, 393, 219, 220, 221, 38, 39, 40, 222, 223, 224, 225, 226, 227, 228, 138, 229, 145, 230, 231, 232, 233, 234, 146, 520, 521, 522, 523, 555, 556, 557, 558, 559, 560, 561, 562, 563, 564, 565, 549, 550, 551, 552, 553] (by decide +kernel) (by decide +kernel)) (goodIn_sub (fun _ h => List.mem_append_right _ h) (by decide +kernel))
set_option maxRecDepth 20000 in
theorem gL_law_L_isNeeded : GoodIn wsL_law (va_wsS RL 136 yL_isNeeded wsL_isNeeded) := goodIn_app (goodIn_of _ (by decide +kernel)) ggL_law_L_isNeeded
set_option maxRecDepth 20000 in
theorem ggL_law_X5_isNeeded : GoodIn wsL_law wsX5_isNeeded := goodIn_r _ [408, 65, 248, 249, 250, 5, 251, 166, 64, 61, 62, 63, 53, 252, 253, 254, 255, 58, 52, 244, 245, 246, 247, 105, 106, 107, 108, 109, 110, 111, 112, 524, 525, 526, 527, 528, 529, 530, 531, 532, 533, 534, 535, 536, 537, 538, 539, 540, 541, 542, 543, 544] (by decide +kernel) (by decide +kernel)
set_option maxRecDepth 20000 in
theorem gL_law_X5_isNeeded : GoodIn wsL_law (wsV RL 138 RX5 yX5_isNeeded wsX5_isNeeded) := goodIn_app (goodIn_of _ (by decide +kernel)) ggL_law_X5_isNeeded
set_option maxRecDepth 20000 in
theorem ggL_law_L_isProved : GoodIn wsL_law wsL_isProved := goodIn_ca (goodIn_r _ [411, 72, 412, 413, 414, 2, 415, 206, 207, 208, 209, 86, 87, 20, 210, 211, 212, 19, 213, 37, 555, 556, 557, 558, 559, 560, 561, 562, 563, 564, 565, 520, 521, 522, 523, 549, 550, 551, 552, 553] (by decide +kernel) (by decide +kernel)) (goodIn_sub (fun _ h => List.mem_append_right _ h) (by decide +kernel))
set_option maxRecDepth 20000 in
theorem gL_law_L_isProved : GoodIn wsL_law (va_wsS RL 139 yL_isProved wsL_isProved) := goodIn_app (goodIn_of _ (by decide +kernel)) ggL_law_L_isProved
set_option maxRecDepth 20000 in
theorem ggL_law_X5_isProved : GoodIn wsL_law wsX5_isProved := goodIn_r _ [419, 60, 244, 245, 246, 5, 247, 166, 58, 105, 106, 107, 108, 109, 110, 111, 112, 524, 525, 526, 527, 528, 529, 530, 531, 532, 533, 534, 535, 536, 537, 538, 539, 540, 541, 542, 543, 544] (by decide +kernel) (by decide +kernel)
set_option maxRecDepth 20000 in
theorem gL_law_X5_isProved : GoodIn wsL_law (wsV RL 141 RX5 yX5_isProved wsX5_isProved) := goodIn_app (goodIn_of _ (by decide +kernel)) ggL_law_X5_isProved
set_option maxRecDepth 20000 in
theorem ggL_law_L_restore : GoodIn wsL_law wsL_restore := goodIn_ca (goodIn_r _ [422, 72, 423, 424, 425, 2, 426, 206, 207, 208, 209, 86, 87, 20, 210, 211, 212, 19, 213, 37, 83, 84, 85, 427, 428, 429, 138, 430, 143, 146, 520, 521, 522, 523, 549, 550, 551, 552, 553, 555, 556, 557, 558, 559, 560, 561, 562, 563, 564, 565] (by decide +kernel) (by decide +kernel)) (goodIn_sub (fun _ h => List.mem_append_right _ h) (by decide +kernel))
set_option maxRecDepth 20000 in
theorem gL_law_L_restore : GoodIn wsL_law (va_wsS RL 142 yL_restore wsL_restore) := goodIn_app (goodIn_of _ (by decide +kernel)) ggL_law_L_restore
set_option maxRecDepth 20000 in
theorem ggL_law_X5_restore : GoodIn wsL_law wsX5_restore := goodIn_r _ [434, 56, 53, 244, 245, 246, 5, 247, 166, 58, 105, 106, 107, 102, 103, 104, 108, 109, 110, 111, 112, 524, 525, 526, 527, 528, 529, 530, 531, 532, 533, 534, 535, 536, 537, 538, 539, 540, 541, 542, 543, 544] (by decide +kernel) (by decide +kernel)
set_option maxRecDepth 20000 in
theorem gL_law_X5_restore : GoodIn wsL_law (wsV RL 144 RX5 yX5_restore wsX5_restore) := goodIn_app (goodIn_of _ (by decide +kernel)) ggL_law_X5_restore
set_option maxRecDepth 20000 in
theorem ggL_law_L_restoreByChanges : GoodIn wsL_law wsL_restoreByChanges := goodIn_ca (goodIn_r _ [437, 72, 438, 439, 440, 2, 441, 16, 206, 207, 208, 209, 86, 87, 20, 210, 211, 212, 19, 213, 37, 83, 84, 85, 442, 443, 444, 15, 445, 31, 32, 520, 521, 522, 523, 555, 556, 557, 558, 559, 560, 561, 562, 563, 564, 565, 549, 550, 551, 552, 553, 545, 546, 547, 548] (by decide +kernel) (by decide +kernel)) (goodIn_sub (fun _ h => List.mem_append_right _ h) (by decide +kernel))
set_option maxRecDepth 20000 in
theorem gL_law_L_restoreByChanges : GoodIn wsL_law (va_wsS RL 145 yL_restoreByChanges wsL_restoreByChanges) := goodIn_app (goodIn_of _ (by decide +kernel)) ggL_law_L_restoreByChanges
set_option maxRecDepth 20000 in
theorem ggL_law_X5_restoreByChanges : GoodIn wsL_law wsX5_restoreByChanges := goodIn_r _ [449, 450, 432, 433, 5, 434, 56, 53, 244, 245, 246, 247, 166, 58, 105, 106, 107, 102, 103, 104, 108, 109, 110, 111, 112, 524, 525, 526, 527, 528, 529, 530, 531, 532, 533, 534, 535, 536, 537, 538, 539, 540, 541, 542, 543, 544] (by decide +kernel) (by decide +kernel)
set_option maxRecDepth 20000 in
theorem gL_law_X5_restoreByChanges : GoodIn wsL_law (wsV RL 147 RX5 yX5_restoreByChanges wsX5_restoreByChanges) := goodIn_app (goodIn_of _ (by decide +kernel)) ggL_law_X5_restoreByChanges
set_option maxRecDepth 20000 in
theorem ggL_law_L_onCall : GoodIn wsL_law wsL_onCall := goodIn_ca (goodIn_r _ [453, 73, 454, 455, 456, 2, 457, 79, 80, 24, 458, 459, 460, 23, 461, 45, 520, 521, 522, 523, 554] (by decide +kernel) (by decide +kernel)) (goodIn_sub (fun _ h => List.mem_append_left _ (List.mem_append_left _ (List.mem_append_right _ h))) (by decide +kernel))
set_option maxRecDepth 20000 in
theorem gL_law_L_onCall : GoodIn wsL_law (va_wsS RL 148 yL_onCall wsL_onCall) := goodIn_app (goodIn_of _ (by decide +kernel)) ggL_law_L_onCall
set_option maxRecDepth 20000 in
theorem ggL_law_X5_onCall : GoodIn wsL_law wsX5_onCall := goodIn_r _ [465, 67, 466, 467, 5, 468, 105, 106, 107, 108, 109, 110, 111, 112, 524, 525, 526, 527, 528, 529, 530, 531, 532, 533, 534, 535, 536, 537, 538, 539, 540, 541, 542, 543, 544] (by decide +kernel) (by decide +kernel)
set_option maxRecDepth 20000 in
theorem gL_law_X5_onCall : GoodIn wsL_law (wsV RL 150 RX5 yX5_onCall wsX5_onCall) := goodIn_app (goodIn_of _ (by decide +kernel)) ggL_law_X5_onCall
set_option maxRecDepth 20000 in
theorem ggL_law_L_swap : GoodIn wsL_law wsL_swap := goodIn_ca (goodIn_ca (goodIn_r _ [471, 73, 74, 472, 473, 474, 2, 475, 79, 80, 81, 82, 24, 476, 477, 478, 479, 25, 480, 481, 482, 23, 483, 484, 485, 486, 487, 45, 488, 489, 490, 491, 492, 459, 460, 461, 458, 520, 521, 522, 523, 554] (by decide +kernel) (by decide +kernel)) (goodIn_sub (fun _ h => List.mem_append_left _ (List.mem_append_left _ (List.mem_append_right _ h))) (by decide +kernel))) (goodIn_sub (fun _ h => List.mem_append_left _ (List.mem_append_right _ h)) (by decide +kernel))
set_option maxRecDepth 20000 in
theorem gL_law_L_swap : GoodIn wsL_law (va_wsS RL 151 yL_swap wsL_swap) := goodIn_app (goodIn_of _ (by decide +kernel)) ggL_law_L_swap
set_option maxRecDepth 20000 in
theorem ggL_law_X5_swap : GoodIn wsL_law wsX5_swap := goodIn_r _ [496, 128, 67, 105, 106, 5, 107, 497, 498, 499, 500, 501, 502, 503, 504, 108, 109, 110, 111, 112, 524, 525, 526, 527, 528, 529, 530, 531, 532, 533, 534, 535, 536, 537, 538, 539, 540, 541, 542, 543, 544] (by decide +kernel) (by decide +kernel)
set_option maxRecDepth 20000 in
theorem gL_law_X5_swap : GoodIn wsL_law (wsV RL 153 RX5 yX5_swap wsX5_swap) := goodIn_app (goodIn_of _ (by decide +kernel)) ggL_law_X5_swap
set_option maxRecDepth 20000 in
theorem ggL_law_L_alarm : GoodIn wsL_law wsL_alarm := goodIn_ca (goodIn_r _ [507, 73, 508, 509, 510, 2, 511, 79, 80, 24, 25, 512, 513, 514, 23, 515, 492, 459, 460, 461, 45, 520, 521, 522, 523, 554] (by decide +kernel) (by decide +kernel)) (goodIn_sub (fun _ h => List.mem_append_left _ (List.mem_append_left _ (List.mem_append_right _ h))) (by decide +kernel))
set_option maxRecDepth 20000 in
theorem gL_law_L_alarm : GoodIn wsL_law (va_wsS RL 154 yL_alarm wsL_alarm) := goodIn_app (goodIn_of _ (by decide +kernel)) ggL_law_L_alarm
set_option maxRecDepth 20000 in
theorem ggL_law_X5_alarm : GoodIn wsL_law wsX5_alarm := goodIn_r _ [519, 67, 128, 105, 106, 5, 107, 108, 109, 110, 111, 112, 524, 525, 526, 527, 528, 529, 530, 531, 532, 533, 534, 535, 536, 537, 538, 539, 540, 541, 542, 543, 544] (by decide +kernel) (by decide +kernel)
set_option maxRecDepth 20000 in
theorem gL_law_X5_alarm : GoodIn wsL_law (wsV RL 156 RX5 yX5_alarm wsX5_alarm) := goodIn_app (goodIn_of _ (by decide +kernel)) ggL_law_X5_alarm


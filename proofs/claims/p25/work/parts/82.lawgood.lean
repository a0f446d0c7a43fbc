theorem inlX0 : ∀ w ∈ wsX00, w ∈ wsL_law := fun _ h => List.mem_append_left _ (List.mem_append_left _ (List.mem_append_left _ (List.mem_append_left _ (List.mem_append_right _ h))))
theorem inX0 : ∀ w ∈ wsX00, w ∈ lw_tbl := fun w h => wsL_law_in w (inlX0 w h)
theorem inlX1 : ∀ w ∈ wsX10, w ∈ wsL_law := fun _ h => List.mem_append_left _ (List.mem_append_left _ (List.mem_append_left _ (List.mem_append_left _ (List.mem_append_left _ (List.mem_append_left _ (List.mem_append_left _ (List.mem_append_right _ h)))))))
theorem inX1 : ∀ w ∈ wsX10, w ∈ lw_tbl := fun w h => wsL_law_in w (inlX1 w h)
theorem inlX2 : ∀ w ∈ wsX20, w ∈ wsL_law := fun _ h => List.mem_append_left _ (List.mem_append_left _ (List.mem_append_left _ (List.mem_append_left _ (List.mem_append_left _ (List.mem_append_right _ h)))))
theorem inX2 : ∀ w ∈ wsX20, w ∈ lw_tbl := fun w h => wsL_law_in w (inlX2 w h)
theorem inlX3 : ∀ w ∈ wsX30, w ∈ wsL_law := fun _ h => List.mem_append_left _ (List.mem_append_left _ (List.mem_append_left _ (List.mem_append_left _ (List.mem_append_left _ (List.mem_append_left _ (List.mem_append_right _ h))))))
theorem inX3 : ∀ w ∈ wsX30, w ∈ lw_tbl := fun w h => wsL_law_in w (inlX3 w h)
theorem inlX4 : ∀ w ∈ wsX40, w ∈ wsL_law := fun _ h => List.mem_append_left _ (List.mem_append_left _ (List.mem_append_left _ (List.mem_append_left _ (List.mem_append_left _ (List.mem_append_left _ (List.mem_append_left _ (List.mem_append_left _ (List.mem_append_right _ h))))))))
theorem inX4 : ∀ w ∈ wsX40, w ∈ lw_tbl := fun w h => wsL_law_in w (inlX4 w h)
theorem inX5 : ∀ w ∈ wsX50, w ∈ lw_tbl := by decide +kernel
theorem inJ9 : ∀ w ∈ wsJ90, w ∈ lw_tbl := by decide +kernel
theorem inJ0 : ∀ w ∈ wsJ00, w ∈ lw_tbl := by decide +kernel
set_option maxRecDepth 20000 in
theorem ggL_law_L_isHeld_wsL_isHeld_r1 : GoodIn wsL_law wsL_isHeld_r1 := goodIn_r _ [4, 5, 6, 7, 8, 2, 9, 10, 11, 12, 13, 14, 15, 16, 17, 18, 19, 20, 21, 22, 23, 24, 25, 26] (by decide +kernel) (by decide +kernel)
set_option maxRecDepth 20000 in
theorem ggL_law_L_isHeld_wsL_isHeld_r2 : GoodIn wsL_law wsL_isHeld_r2 := goodIn_r _ [27, 28, 29, 30, 31, 32, 33, 34, 35, 36, 37, 38, 39, 40, 41, 42, 43, 44, 45, 46, 47, 48, 49, 50] (by decide +kernel) (by decide +kernel)
set_option maxRecDepth 20000 in
theorem ggL_law_L_isHeld_wsL_isHeld_r3 : GoodIn wsL_law wsL_isHeld_r3 := by
  show GoodIn wsL_law ([Cond.methodLink RX2 3 objectInit, Cond.fieldLink RX2 9 "DrillVault$Rota" "persons" "[I", Cond.methodLink RL 136 yL_from, Cond.static yL_from, Cond.code yL_from cL_from 4 (some .int), Cond.constant RL 7 (172787), Cond.constant RL 8 (2147483647), Cond.methodLink RL 141 yL_acts, Cond.static yL_acts] ++ ([Cond.code yL_acts cL_acts 15 (some .boolean)] ++ [Cond.methodLink RL 104 yX4_change, Cond.instanceMethod yX4_change, Cond.selects RX4 yX4_change yX4_change, Cond.code yX4_change cX4_change 4 (some .int), Cond.classLink RX4 38 "java/lang/IllegalArgumentException", Cond.initialized "java/lang/IllegalArgumentException", Cond.classLink RX4 48 "java/lang/IllegalStateException", Cond.initialized "java/lang/IllegalStateException", Cond.methodLink RX4 34 yX4_requireFile, Cond.static yX4_requireFile, Cond.code yX4_requireFile cX4_requireFile 1 none, Cond.classLink RX4 197 "java/lang/IndexOutOfBoundsException", Cond.initialized "java/lang/IndexOutOfBoundsException", Cond.methodLink RX4 53 yX1_contentNow]))
  exact goodIn_app (goodIn_r _ [51, 52, 53, 54, 55, 56, 57, 58, 59] (by decide +kernel) (by decide +kernel)) (goodIn_app (goodIn_1 (List.mem_append_left _ (List.mem_append_left _ (List.mem_append_left _ (List.mem_append_left _ (List.mem_append_left _ (List.mem_append_left _ (List.mem_append_left _ (List.mem_append_left _ (List.mem_append_left _ (List.mem_append_right _ (List.mem_append_right _ (List.mem_append_left _ (List.mem_of_getElem? (i := 12) rfl : Cond.code yL_acts cL_acts 15 (some .boolean) ∈ wsL_law0_r3))))))))))))) rfl) (goodIn_r _ [61, 62, 63, 64, 65, 66, 67, 68, 69, 70, 71, 72, 73, 74] (by decide +kernel) (by decide +kernel)))
set_option maxRecDepth 20000 in
theorem ggL_law_L_isHeld_wsL_isHeld_r4 : GoodIn wsL_law wsL_isHeld_r4 := goodIn_r _ [75, 76, 77, 78, 79, 80, 81, 82, 83, 84, 85, 86, 87, 88, 89, 90, 91, 92, 93, 94, 95, 96, 97, 98] (by decide +kernel) (by decide +kernel)
set_option maxRecDepth 20000 in
theorem ggL_law_L_isHeld_wsL_isHeld_r5 : GoodIn wsL_law wsL_isHeld_r5 := goodIn_r _ [99, 100, 101, 102, 103, 104, 105, 106, 107, 108, 109, 110, 111, 112, 113, 114, 115, 116, 117, 118, 119, 120, 121, 122] (by decide +kernel) (by decide +kernel)
set_option maxRecDepth 20000 in
theorem ggL_law_L_isHeld_wsL_isHeld_r6 : GoodIn wsL_law wsL_isHeld_r6 := goodIn_r _ [123, 124, 125, 126, 127, 128, 129, 130, 131, 132, 133, 134, 135, 136, 137, 138, 139, 140, 141, 142, 143, 144, 145, 146] (by decide +kernel) (by decide +kernel)
set_option maxRecDepth 20000 in
theorem ggL_law_L_isHeld_wsL_isHeld_r7 : GoodIn wsL_law wsL_isHeld_r7 := goodIn_r _ [147, 148, 149, 150, 151, 152, 153, 154, 155, 156, 157, 158, 159, 160, 161, 162, 163, 164, 165, 166, 167, 168, 169, 170] (by decide +kernel) (by decide +kernel)
set_option maxRecDepth 20000 in
theorem ggL_law_L_isHeld_wsL_isHeld_r8 : GoodIn wsL_law wsL_isHeld_r8 := goodIn_r _ [171, 172, 173, 174, 175, 176, 177, 178, 179, 180, 181, 182, 183, 184, 185, 186, 187, 188, 189, 190, 191, 192, 193, 194] (by decide +kernel) (by decide +kernel)
set_option maxRecDepth 20000 in
theorem ggL_law_L_isHeld_wsL_isHeld_r9 : GoodIn wsL_law wsL_isHeld_r9 := goodIn_r _ [195, 196, 197, 198, 199, 200, 201, 202, 203, 204, 205, 206, 207, 208, 209, 210, 211, 212, 213, 214, 215, 216, 217, 218] (by decide +kernel) (by decide +kernel)
set_option maxRecDepth 20000 in
theorem ggL_law_L_isHeld_wsL_isHeld_r10 : GoodIn wsL_law wsL_isHeld_r10 := goodIn_r _ [219, 220, 221, 222, 223, 224, 225, 226, 227, 228, 229, 230, 231, 232, 233, 234, 235, 236, 237, 238, 239, 240, 241, 242] (by decide +kernel) (by decide +kernel)
set_option maxRecDepth 20000 in
theorem ggL_law_L_isHeld_wsL_isHeld_r11 : GoodIn wsL_law wsL_isHeld_r11 := goodIn_r _ [243, 244, 245, 246, 247, 248, 249, 250, 251, 252, 253, 254, 255, 256, 257, 258, 259, 260, 261, 262, 263, 264, 265, 266] (by decide +kernel) (by decide +kernel)
set_option maxRecDepth 20000 in
theorem ggL_law_L_isHeld_wsL_isHeld_r12 : GoodIn wsL_law wsL_isHeld_r12 := goodIn_r _ [267, 268, 269, 270, 271, 272, 273, 274, 275, 276, 277, 278, 279, 280, 281, 282, 283, 284, 285, 286, 287, 288, 289, 290] (by decide +kernel) (by decide +kernel)
set_option maxRecDepth 20000 in
theorem ggL_law_L_isHeld_wsL_isHeld_r13 : GoodIn wsL_law wsL_isHeld_r13 := goodIn_r _ [291, 292, 293, 294, 295, 296, 297, 298, 299, 300, 301, 302, 303, 304, 305, 306, 307, 308, 309, 310, 311, 312, 313, 314] (by decide +kernel) (by decide +kernel)
set_option maxRecDepth 20000 in
theorem ggL_law_L_isHeld_wsL_isHeld_r14 : GoodIn wsL_law wsL_isHeld_r14 := goodIn_r _ [315, 316, 317, 318, 319, 320, 321, 322, 323, 324, 325, 326, 327, 328, 329, 330, 331, 332, 333, 334, 335, 336, 337, 338] (by decide +kernel) (by decide +kernel)
set_option maxRecDepth 20000 in
theorem ggL_law_L_isHeld_wsL_isHeld_r15 : GoodIn wsL_law wsL_isHeld_r15 := goodIn_r _ [339, 340, 341, 342, 343, 344, 345, 346, 347, 348, 349, 350, 351, 352, 353, 354, 355] (by decide +kernel) (by decide +kernel)
set_option maxRecDepth 20000 in
theorem ggL_law_L_isHeld_wsX40 : GoodIn wsL_law wsX40 := goodIn_r _ [356, 357, 358, 359] (by decide +kernel) (by decide +kernel)
set_option maxRecDepth 20000 in
theorem ggL_law_L_isHeld_wsX10 : GoodIn wsL_law wsX10 := goodIn_r _ [360, 361, 362, 363] (by decide +kernel) (by decide +kernel)
set_option maxRecDepth 20000 in
theorem ggL_law_L_isHeld_wsX30 : GoodIn wsL_law wsX30 := goodIn_r _ [364, 365, 366, 367, 368] (by decide +kernel) (by decide +kernel)
set_option maxRecDepth 20000 in
theorem ggL_law_L_isHeld_wsX20 : GoodIn wsL_law wsX20 := goodIn_r _ [369] (by decide +kernel) (by decide +kernel)
set_option maxRecDepth 20000 in
theorem ggL_law_L_isHeld_wsX00 : GoodIn wsL_law wsX00 := goodIn_r _ [370, 371, 372, 373, 374, 375, 376, 377, 378, 379, 380] (by decide +kernel) (by decide +kernel)
set_option maxRecDepth 20000 in
theorem ggL_law_L_isHeld_hd : GoodIn wsL_law [.codeWith yL_isHeld cL_isHeld 2 (some .boolean) [(0, 4, 5, 35), (0, 4, 8, 69), (0, 4, 11, 64)]] := goodIn_1 (List.mem_append_left _ (List.mem_append_left _ (List.mem_append_left _ (List.mem_append_left _ (List.mem_append_left _ (List.mem_append_left _ (List.mem_append_left _ (List.mem_append_left _ (List.mem_append_left _ (List.mem_append_left _ (List.mem_of_getElem? (i := 3) rfl : .codeWith yL_isHeld cL_isHeld 2 (some .boolean) [(0, 4, 5, 35), (0, 4, 8, 69), (0, 4, 11, 64)] ∈ wsL_law0_r1))))))))))) rfl
set_option maxRecDepth 20000 in
theorem ggL_law_L_isHeld : GoodIn wsL_law wsL_isHeld := goodIn_ca (goodIn_ca (goodIn_ca (goodIn_ca (a := []) ggL_law_L_isHeld_hd (goodIn_app (goodIn_app (goodIn_app (goodIn_app (goodIn_app (goodIn_app ggL_law_L_isHeld_wsL_isHeld_r1 (goodIn_app ggL_law_L_isHeld_wsL_isHeld_r2 (goodIn_app ggL_law_L_isHeld_wsL_isHeld_r3 (goodIn_app ggL_law_L_isHeld_wsL_isHeld_r4 (goodIn_app ggL_law_L_isHeld_wsL_isHeld_r5 (goodIn_app ggL_law_L_isHeld_wsL_isHeld_r6 (goodIn_app ggL_law_L_isHeld_wsL_isHeld_r7 (goodIn_app ggL_law_L_isHeld_wsL_isHeld_r8 (goodIn_app ggL_law_L_isHeld_wsL_isHeld_r9 (goodIn_app ggL_law_L_isHeld_wsL_isHeld_r10 (goodIn_app ggL_law_L_isHeld_wsL_isHeld_r11 (goodIn_app ggL_law_L_isHeld_wsL_isHeld_r12 (goodIn_app ggL_law_L_isHeld_wsL_isHeld_r13 (goodIn_app ggL_law_L_isHeld_wsL_isHeld_r14 ggL_law_L_isHeld_wsL_isHeld_r15)))))))))))))) ggL_law_L_isHeld_wsX40) ggL_law_L_isHeld_wsX10) ggL_law_L_isHeld_wsX30) ggL_law_L_isHeld_wsX20) ggL_law_L_isHeld_wsX00)) (goodIn_sub (fun _ h => List.mem_append_left _ (List.mem_append_left _ (List.mem_append_right _ h))) (by decide +kernel))) (goodIn_sub (fun _ h => List.mem_append_left _ (List.mem_append_right _ h)) (by decide +kernel))) (goodIn_sub (fun _ h => List.mem_append_right _ h) (by decide +kernel))
set_option maxRecDepth 20000 in
theorem gL_law_L_isHeld : GoodIn wsL_law (va_wsS RL 153 yL_isHeld wsL_isHeld) := goodIn_app (goodIn_of _ (by decide +kernel)) ggL_law_L_isHeld


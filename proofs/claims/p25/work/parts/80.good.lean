theorem goodIn_1 {big : List Cond} {w : Cond} (hm : w ∈ big) (h : goodWord w = true) : GoodIn big [w] := goodIn_sub (fun q hq => by rw [List.mem_singleton.mp hq]; exact hm) (by rw [List.all_cons, h]; rfl)
set_option maxRecDepth 20000 in
theorem ggL_holds_L_acts_wsL_acts_r1 : GoodIn wsL_holds wsL_acts_r1 := goodIn_r _ [53, 54, 55, 3, 56, 57, 58, 59, 60, 15, 61, 62, 63, 64, 65, 66, 67, 68, 14, 69, 28, 70, 71, 72] (by decide +kernel) (by decide +kernel)
set_option maxRecDepth 20000 in
theorem ggL_holds_L_acts_wsL_acts_r2 : GoodIn wsL_holds wsL_acts_r2 := goodIn_r _ [73, 74, 29, 30, 75, 76, 77, 78, 24, 79, 80, 46, 81, 82, 83, 84, 85, 86, 87, 88, 89, 19, 90, 91] (by decide +kernel) (by decide +kernel)
set_option maxRecDepth 20000 in
theorem ggL_holds_L_acts_wsL_acts_r3 : GoodIn wsL_holds wsL_acts_r3 := goodIn_r _ [92, 93, 94, 95, 18, 96, 35, 97, 98, 99, 100, 10, 11, 4, 101, 102, 103, 104, 105, 106, 107, 108, 109, 110] (by decide +kernel) (by decide +kernel)
set_option maxRecDepth 20000 in
theorem ggL_holds_L_acts_wsL_acts_r4 : GoodIn wsL_holds wsL_acts_r4 := goodIn_r _ [111, 112, 113, 114, 115, 116, 117, 118, 119, 120, 121, 122, 123, 124, 125, 126, 127, 128, 129, 130, 131, 132, 133, 134] (by decide +kernel) (by decide +kernel)
set_option maxRecDepth 20000 in
theorem ggL_holds_L_acts_wsL_acts_r5 : GoodIn wsL_holds wsL_acts_r5 := goodIn_r _ [135, 136, 137, 138, 139, 140, 141, 142, 143, 144, 145, 146, 147, 148, 149, 150, 151, 152, 153, 154, 155, 156, 157, 158] (by decide +kernel) (by decide +kernel)
set_option maxRecDepth 20000 in
theorem ggL_holds_L_acts_wsL_acts_r6 : GoodIn wsL_holds wsL_acts_r6 := goodIn_r _ [159, 160, 161, 162, 163, 164, 165, 166, 167, 168, 169, 170, 171, 172, 173, 174, 175, 176, 177, 178, 179, 180, 181, 182] (by decide +kernel) (by decide +kernel)
set_option maxRecDepth 20000 in
theorem ggL_holds_L_acts_wsL_acts_r7 : GoodIn wsL_holds wsL_acts_r7 := goodIn_r _ [183, 184, 185, 186, 36, 37, 38, 187, 188, 189, 190, 191, 192, 193, 194, 195, 196, 197, 198, 199, 200, 201, 202, 203] (by decide +kernel) (by decide +kernel)
set_option maxRecDepth 20000 in
theorem ggL_holds_L_acts_wsL_acts_r8 : GoodIn wsL_holds wsL_acts_r8 := goodIn_r _ [204, 205, 206, 207, 208, 209, 210, 211, 212, 213, 214, 215, 216, 217, 218, 219, 220, 221, 222, 223, 224, 225, 226, 227] (by decide +kernel) (by decide +kernel)
set_option maxRecDepth 20000 in
theorem ggL_holds_L_acts_wsL_acts_r9 : GoodIn wsL_holds wsL_acts_r9 := goodIn_r _ [228, 229, 230, 231, 232, 233, 234, 235, 236, 237, 238, 239, 240, 241, 242, 243, 23, 244, 245, 246, 247, 248, 249, 250] (by decide +kernel) (by decide +kernel)
set_option maxRecDepth 20000 in
theorem ggL_holds_L_acts_wsL_acts_r10 : GoodIn wsL_holds wsL_acts_r10 := goodIn_r _ [22, 251, 252, 253, 254, 255, 43, 256, 257, 258, 259, 260, 261, 262, 263, 264, 265, 266, 267, 268, 269, 270, 271, 272] (by decide +kernel) (by decide +kernel)
set_option maxRecDepth 20000 in
theorem ggL_holds_L_acts_wsX40 : GoodIn wsL_holds wsX40 := goodIn_r _ [351, 352, 353, 354] (by decide +kernel) (by decide +kernel)
set_option maxRecDepth 20000 in
theorem ggL_holds_L_acts_wsX10 : GoodIn wsL_holds wsX10 := goodIn_r _ [355, 356, 357, 358] (by decide +kernel) (by decide +kernel)
set_option maxRecDepth 20000 in
theorem ggL_holds_L_acts_wsX30 : GoodIn wsL_holds wsX30 := goodIn_r _ [359, 360, 361, 362, 363] (by decide +kernel) (by decide +kernel)
set_option maxRecDepth 20000 in
theorem ggL_holds_L_acts_wsX00 : GoodIn wsL_holds wsX00 := goodIn_r _ [365, 366, 367, 368, 369, 370, 371, 372, 373, 374, 375] (by decide +kernel) (by decide +kernel)
set_option maxRecDepth 20000 in
theorem ggL_holds_L_acts_wsX20 : GoodIn wsL_holds wsX20 := goodIn_r _ [364] (by decide +kernel) (by decide +kernel)
set_option maxRecDepth 20000 in
theorem ggL_holds_L_acts_hd : GoodIn wsL_holds [.code yL_acts cL_acts 15 (some .boolean)] := goodIn_1 (List.mem_cons_of_mem _ (List.mem_append_left _ (List.mem_append_left _ (List.mem_append_left _ (List.mem_append_left _ (List.mem_append_left _ (List.mem_append_left _ (List.mem_append_left _ (List.mem_append_left _ (List.mem_append_right _ (List.mem_append_right _ (List.mem_append_left _ (List.mem_of_getElem? (i := 3) rfl : .code yL_acts cL_acts 15 (some .boolean) ∈ wsL_holds_r3))))))))))))) rfl
set_option maxRecDepth 20000 in
theorem ggL_holds_L_acts : GoodIn wsL_holds wsL_acts := goodIn_ca (goodIn_ca (goodIn_ca (goodIn_ca (a := []) ggL_holds_L_acts_hd (goodIn_app (goodIn_app (goodIn_app (goodIn_app (goodIn_app (goodIn_app ggL_holds_L_acts_wsL_acts_r1 (goodIn_app ggL_holds_L_acts_wsL_acts_r2 (goodIn_app ggL_holds_L_acts_wsL_acts_r3 (goodIn_app ggL_holds_L_acts_wsL_acts_r4 (goodIn_app ggL_holds_L_acts_wsL_acts_r5 (goodIn_app ggL_holds_L_acts_wsL_acts_r6 (goodIn_app ggL_holds_L_acts_wsL_acts_r7 (goodIn_app ggL_holds_L_acts_wsL_acts_r8 (goodIn_app ggL_holds_L_acts_wsL_acts_r9 ggL_holds_L_acts_wsL_acts_r10))))))))) ggL_holds_L_acts_wsX40) ggL_holds_L_acts_wsX10) ggL_holds_L_acts_wsX30) ggL_holds_L_acts_wsX00) ggL_holds_L_acts_wsX20)) (goodIn_sub (fun _ h => List.mem_cons_of_mem _ (List.mem_append_left _ (List.mem_append_left _ (List.mem_append_right _ h)))) (by decide +kernel))) (goodIn_sub (fun _ h => List.mem_cons_of_mem _ (List.mem_append_left _ (List.mem_append_right _ h))) (by decide +kernel))) (goodIn_sub (fun _ h => List.mem_cons_of_mem _ (List.mem_append_right _ h)) (by decide +kernel))
set_option maxRecDepth 20000 in
theorem gL_holds_L_acts : GoodIn wsL_holds (va_wsS RL 141 yL_acts wsL_acts) := goodIn_app (goodIn_of _ (by decide +kernel)) ggL_holds_L_acts
set_option maxRecDepth 20000 in
theorem ggL_holds_L_isTold_wsL_isTold_r1 : GoodIn wsL_holds wsL_isTold_r1 := goodIn_r _ [276, 169, 170, 46, 171, 233, 234, 235, 136, 137, 138, 277, 278, 279, 3, 280, 24, 281, 282, 283, 284, 19, 285, 286] (by decide +kernel) (by decide +kernel)
set_option maxRecDepth 20000 in
theorem ggL_holds_L_isTold_wsL_isTold_r2 : GoodIn wsL_holds wsL_isTold_r2 := goodIn_r _ [287, 18, 288, 35, 125, 126, 127, 289, 290, 291, 142, 292, 293, 294, 295, 147, 148, 149, 150, 64, 65, 151, 152, 153] (by decide +kernel) (by decide +kernel)
set_option maxRecDepth 20000 in
theorem ggL_holds_L_isTold_wsL_isTold_r3 : GoodIn wsL_holds wsL_isTold_r3 := goodIn_r _ [154, 296, 297, 298, 299, 300, 301, 302, 303, 304, 305, 306, 307, 308, 309, 310, 311, 184, 185, 186, 36, 37, 38, 187] (by decide +kernel) (by decide +kernel)
set_option maxRecDepth 20000 in
theorem ggL_holds_L_isTold_wsL_isTold_r4 : GoodIn wsL_holds wsL_isTold_r4 := goodIn_r _ [188, 189, 190, 191, 192, 193, 92, 194, 103, 195, 196, 197, 198, 199, 104, 312, 313, 314, 315, 316, 317, 318, 319, 320] (by decide +kernel) (by decide +kernel)
set_option maxRecDepth 20000 in
theorem ggL_holds_L_isTold_wsL_isTold_r5 : GoodIn wsL_holds wsL_isTold_r5 := goodIn_r _ [321, 322, 323, 324, 325, 326, 61, 62, 63, 327, 328, 329, 330, 101, 331, 332, 333, 334, 15, 335, 336, 337, 14, 338] (by decide +kernel) (by decide +kernel)
set_option maxRecDepth 20000 in
theorem ggL_holds_L_isTold_wsL_isTold_r6 : GoodIn wsL_holds wsL_isTold_r6 := goodIn_r _ [29, 30, 339, 340, 341, 342, 57, 58, 23, 264, 261, 262, 22, 263, 43, 343, 344, 345, 346, 347, 348, 349, 350, 226] (by decide +kernel) (by decide +kernel)
set_option maxRecDepth 20000 in
theorem ggL_holds_L_isTold_wsL_isTold_r7 : GoodIn wsL_holds wsL_isTold_r7 := goodIn_r _ [227, 228, 229, 119] (by decide +kernel) (by decide +kernel)
set_option maxRecDepth 20000 in
theorem ggL_holds_L_isTold_wsX40 : GoodIn wsL_holds wsX40 := goodIn_r _ [351, 352, 353, 354] (by decide +kernel) (by decide +kernel)
set_option maxRecDepth 20000 in
theorem ggL_holds_L_isTold_wsX30 : GoodIn wsL_holds wsX30 := goodIn_r _ [359, 360, 361, 362, 363] (by decide +kernel) (by decide +kernel)
set_option maxRecDepth 20000 in
theorem ggL_holds_L_isTold_wsX00 : GoodIn wsL_holds wsX00 := goodIn_r _ [365, 366, 367, 368, 369, 370, 371, 372, 373, 374, 375] (by decide +kernel) (by decide +kernel)
set_option maxRecDepth 20000 in
theorem ggL_holds_L_isTold_wsX10 : GoodIn wsL_holds wsX10 := goodIn_r _ [355, 356, 357, 358] (by decide +kernel) (by decide +kernel)
set_option maxRecDepth 20000 in
theorem ggL_holds_L_isTold_wsX20 : GoodIn wsL_holds wsX20 := goodIn_r _ [364] (by decide +kernel) (by decide +kernel)
set_option maxRecDepth 20000 in
theorem ggL_holds_L_isTold_hd : GoodIn wsL_holds [.code yL_isTold cL_isTold 13 (some .boolean)] := goodIn_1 (List.mem_cons_of_mem _ (List.mem_append_left _ (List.mem_append_left _ (List.mem_append_left _ (List.mem_append_left _ (List.mem_append_left _ (List.mem_append_left _ (List.mem_append_left _ (List.mem_append_left _ (List.mem_append_right _ (List.mem_append_right _ (List.mem_append_right _ (List.mem_append_right _ (List.mem_append_right _ (List.mem_append_right _ (List.mem_append_right _ (List.mem_append_right _ (List.mem_append_right _ (List.mem_append_right _ (List.mem_append_right _ (List.mem_append_left _ (List.mem_of_getElem? (i := 10) rfl : .code yL_isTold cL_isTold 13 (some .boolean) ∈ wsL_holds_r12)))))))))))))))))))))) rfl
set_option maxRecDepth 20000 in
theorem ggL_holds_L_isTold : GoodIn wsL_holds wsL_isTold := goodIn_ca (goodIn_ca (goodIn_ca (a := []) ggL_holds_L_isTold_hd (goodIn_app (goodIn_app (goodIn_app (goodIn_app (goodIn_app (goodIn_app ggL_holds_L_isTold_wsL_isTold_r1 (goodIn_app ggL_holds_L_isTold_wsL_isTold_r2 (goodIn_app ggL_holds_L_isTold_wsL_isTold_r3 (goodIn_app ggL_holds_L_isTold_wsL_isTold_r4 (goodIn_app ggL_holds_L_isTold_wsL_isTold_r5 (goodIn_app ggL_holds_L_isTold_wsL_isTold_r6 ggL_holds_L_isTold_wsL_isTold_r7)))))) ggL_holds_L_isTold_wsX40) ggL_holds_L_isTold_wsX30) ggL_holds_L_isTold_wsX00) ggL_holds_L_isTold_wsX10) ggL_holds_L_isTold_wsX20)) (goodIn_sub (fun _ h => List.mem_cons_of_mem _ (List.mem_append_right _ h)) (by decide +kernel))) (goodIn_sub (fun _ h => List.mem_cons_of_mem _ (List.mem_append_left _ (List.mem_append_left _ (List.mem_append_right _ h)))) (by decide +kernel))
set_option maxRecDepth 20000 in
theorem gL_holds_L_isTold : GoodIn wsL_holds (va_wsS RL 145 yL_isTold wsL_isTold) := goodIn_app (goodIn_of _ (by decide +kernel)) ggL_holds_L_isTold
set_option maxRecDepth 20000 in
theorem ggL_isHeld_L_holds_wsL_holds_r1 : GoodIn wsL_isHeld wsL_holds_r1 := goodIn_r _ [8, 9, 10, 11, 12, 13, 14, 15, 16, 17, 18, 19, 20, 21, 22, 23, 24, 25, 26, 27, 28, 29, 30, 31] (by decide +kernel) (by decide +kernel)
set_option maxRecDepth 20000 in
theorem ggL_isHeld_L_holds_wsL_holds_r2 : GoodIn wsL_isHeld wsL_holds_r2 := goodIn_r _ [32, 33, 34, 35, 36, 37, 38, 39, 40, 41, 42, 43, 44, 45, 46, 47, 48, 49, 50, 51, 52, 6, 53, 54] (by decide +kernel) (by decide +kernel)
set_option maxRecDepth 20000 in
theorem ggL_isHeld_L_holds_wsL_holds_r3 : GoodIn wsL_isHeld wsL_holds_r3 := by
  show GoodIn wsL_isHeld ([Cond.constant RL 8 (2147483647), Cond.methodLink RL 141 yL_acts, Cond.static yL_acts] ++ ([Cond.code yL_acts cL_acts 15 (some .boolean)] ++ [Cond.methodLink RL 104 yX4_change, Cond.instanceMethod yX4_change, Cond.selects RX4 yX4_change yX4_change, Cond.code yX4_change cX4_change 4 (some .int), Cond.classLink RX4 38 "java/lang/IllegalArgumentException", Cond.initialized "java/lang/IllegalArgumentException", Cond.classLink RX4 48 "java/lang/IllegalStateException", Cond.initialized "java/lang/IllegalStateException", Cond.methodLink RX4 34 yX4_requireFile, Cond.static yX4_requireFile, Cond.code yX4_requireFile cX4_requireFile 1 none, Cond.classLink RX4 197 "java/lang/IndexOutOfBoundsException", Cond.initialized "java/lang/IndexOutOfBoundsException", Cond.methodLink RX4 53 yX1_contentNow, Cond.instanceMethod yX1_contentNow, Cond.selects RX1 yX1_contentNow yX1_contentNow, Cond.code yX1_contentNow cX1_contentNow 2 (some .int), Cond.methodLink RX4 57 yX1_write, Cond.instanceMethod yX1_write, Cond.selects RX1 yX1_write yX1_write]))
  exact goodIn_app (goodIn_r _ [55, 56, 57] (by decide +kernel) (by decide +kernel)) (goodIn_app (goodIn_1 (List.mem_cons_of_mem _ (List.mem_append_left _ (List.mem_append_left _ (List.mem_append_left _ (List.mem_append_left _ (List.mem_append_left _ (List.mem_append_left _ (List.mem_append_left _ (List.mem_append_left _ (List.mem_append_right _ (List.mem_append_right _ (List.mem_append_left _ (List.mem_of_getElem? (i := 9) rfl : Cond.code yL_acts cL_acts 15 (some .boolean) ∈ wsL_isHeld_r3))))))))))))) rfl) (goodIn_r _ [59, 60, 61, 62, 63, 64, 65, 66, 67, 68, 69, 70, 71, 72, 73, 74, 75, 76, 77, 78] (by decide +kernel) (by decide +kernel)))
set_option maxRecDepth 20000 in
theorem ggL_isHeld_L_holds_wsL_holds_r4 : GoodIn wsL_isHeld wsL_holds_r4 := goodIn_r _ [79, 80, 81, 82, 83, 84, 85, 86, 87, 88, 89, 90, 3, 91, 92, 93, 94, 95, 96, 97, 98, 99, 100, 101] (by decide +kernel) (by decide +kernel)
set_option maxRecDepth 20000 in
theorem ggL_isHeld_L_holds_wsL_holds_r5 : GoodIn wsL_isHeld wsL_holds_r5 := goodIn_r _ [102, 103, 104, 105, 106, 107, 108, 109, 110, 111, 112, 113, 114, 115, 116, 117, 118, 119, 120, 121, 122, 123, 124, 125] (by decide +kernel) (by decide +kernel)
set_option maxRecDepth 20000 in
theorem ggL_isHeld_L_holds_wsL_holds_r6 : GoodIn wsL_isHeld wsL_holds_r6 := goodIn_r _ [126, 127, 128, 129, 130, 131, 132, 133, 134, 135, 136, 137, 138, 139, 140, 141, 142, 143, 144, 145, 146, 1, 147, 148] (by decide +kernel) (by decide +kernel)
set_option maxRecDepth 20000 in
theorem ggL_isHeld_L_holds_wsL_holds_r7 : GoodIn wsL_isHeld wsL_holds_r7 := goodIn_r _ [149, 150, 151, 152, 153, 154, 155, 156, 157, 158, 159, 160, 161, 162, 163, 164, 165, 166, 167, 168, 169, 170, 171, 172] (by decide +kernel) (by decide +kernel)
set_option maxRecDepth 20000 in
theorem ggL_isHeld_L_holds_wsL_holds_r8 : GoodIn wsL_isHeld wsL_holds_r8 := goodIn_r _ [173, 174, 175, 176, 177, 178, 179, 180, 181, 182, 183, 184, 185, 186, 187, 188, 189, 190, 191, 192, 193, 194, 195, 196] (by decide +kernel) (by decide +kernel)
set_option maxRecDepth 20000 in
theorem ggL_isHeld_L_holds_wsL_holds_r9 : GoodIn wsL_isHeld wsL_holds_r9 := goodIn_r _ [197, 198, 199, 200, 201, 202, 203, 204, 205, 206, 207, 208, 209, 210, 211, 212, 213, 214, 215, 216, 217, 218, 219, 220] (by decide +kernel) (by decide +kernel)
set_option maxRecDepth 20000 in
theorem ggL_isHeld_L_holds_wsL_holds_r10 : GoodIn wsL_isHeld wsL_holds_r10 := goodIn_r _ [221, 222, 223, 224, 225, 226, 227, 228, 229, 230, 231, 232, 233, 234, 235, 236, 237, 238, 239, 240, 241, 242, 2, 243] (by decide +kernel) (by decide +kernel)
set_option maxRecDepth 20000 in
theorem ggL_isHeld_L_holds_wsL_holds_r11 : GoodIn wsL_isHeld wsL_holds_r11 := goodIn_r _ [244, 245, 246, 247, 248, 249, 250, 251, 252, 253, 254, 255, 256, 257, 258, 259, 260, 261, 262, 263, 264, 265, 266, 267] (by decide +kernel) (by decide +kernel)
set_option maxRecDepth 20000 in
theorem ggL_isHeld_L_holds_wsL_holds_r12 : GoodIn wsL_isHeld wsL_holds_r12 := goodIn_r _ [268, 269, 270, 271, 272, 273, 274, 275, 276, 277, 278, 279, 280, 281, 282, 283, 284, 285, 286, 287, 288, 289, 290, 291] (by decide +kernel) (by decide +kernel)
set_option maxRecDepth 20000 in
theorem ggL_isHeld_L_holds_wsL_holds_r13 : GoodIn wsL_isHeld wsL_holds_r13 := goodIn_r _ [292, 293, 294, 295, 296, 297, 298, 299, 300, 301, 302, 303, 304, 305, 306, 307, 308, 309, 310, 311, 312, 313, 314, 315] (by decide +kernel) (by decide +kernel)
set_option maxRecDepth 20000 in
theorem ggL_isHeld_L_holds_wsL_holds_r14 : GoodIn wsL_isHeld wsL_holds_r14 := goodIn_r _ [316, 317, 318, 319, 320, 321, 322, 323, 324, 325, 326, 327, 328, 329, 330, 331, 332, 333, 334, 335, 336, 337, 338, 339] (by decide +kernel) (by decide +kernel)
set_option maxRecDepth 20000 in
theorem ggL_isHeld_L_holds_wsL_holds_r15 : GoodIn wsL_isHeld wsL_holds_r15 := goodIn_r _ [340, 341, 342, 343, 344, 345, 346, 347, 348, 349, 350, 351, 352, 353] (by decide +kernel) (by decide +kernel)
set_option maxRecDepth 20000 in
theorem ggL_isHeld_L_holds_wsX40 : GoodIn wsL_isHeld wsX40 := goodIn_r _ [354, 355, 356, 357] (by decide +kernel) (by decide +kernel)
set_option maxRecDepth 20000 in
theorem ggL_isHeld_L_holds_wsX10 : GoodIn wsL_isHeld wsX10 := goodIn_r _ [358, 359, 360, 361] (by decide +kernel) (by decide +kernel)
set_option maxRecDepth 20000 in
theorem ggL_isHeld_L_holds_wsX30 : GoodIn wsL_isHeld wsX30 := goodIn_r _ [362, 363, 364, 365, 366] (by decide +kernel) (by decide +kernel)
set_option maxRecDepth 20000 in
theorem ggL_isHeld_L_holds_wsX20 : GoodIn wsL_isHeld wsX20 := goodIn_r _ [367] (by decide +kernel) (by decide +kernel)
set_option maxRecDepth 20000 in
theorem ggL_isHeld_L_holds_wsX00 : GoodIn wsL_isHeld wsX00 := goodIn_r _ [368, 369, 370, 371, 372, 373, 374, 375, 376, 377, 378] (by decide +kernel) (by decide +kernel)
set_option maxRecDepth 20000 in
theorem ggL_isHeld_L_holds_hd : GoodIn wsL_isHeld [.code yL_holds cL_holds 9 (some .boolean)] := goodIn_1 (List.mem_cons_of_mem _ (List.mem_append_left _ (List.mem_append_left _ (List.mem_append_left _ (List.mem_append_left _ (List.mem_append_left _ (List.mem_append_left _ (List.mem_append_left _ (List.mem_append_left _ (List.mem_append_left _ (List.mem_of_getElem? (i := 6) rfl : .code yL_holds cL_holds 9 (some .boolean) ∈ wsL_isHeld_r1))))))))))) rfl
set_option maxRecDepth 20000 in
theorem ggL_isHeld_L_holds : GoodIn wsL_isHeld wsL_holds := goodIn_ca (goodIn_ca (goodIn_ca (goodIn_ca (a := []) ggL_isHeld_L_holds_hd (goodIn_app (goodIn_app (goodIn_app (goodIn_app (goodIn_app (goodIn_app ggL_isHeld_L_holds_wsL_holds_r1 (goodIn_app ggL_isHeld_L_holds_wsL_holds_r2 (goodIn_app ggL_isHeld_L_holds_wsL_holds_r3 (goodIn_app ggL_isHeld_L_holds_wsL_holds_r4 (goodIn_app ggL_isHeld_L_holds_wsL_holds_r5 (goodIn_app ggL_isHeld_L_holds_wsL_holds_r6 (goodIn_app ggL_isHeld_L_holds_wsL_holds_r7 (goodIn_app ggL_isHeld_L_holds_wsL_holds_r8 (goodIn_app ggL_isHeld_L_holds_wsL_holds_r9 (goodIn_app ggL_isHeld_L_holds_wsL_holds_r10 (goodIn_app ggL_isHeld_L_holds_wsL_holds_r11 (goodIn_app ggL_isHeld_L_holds_wsL_holds_r12 (goodIn_app ggL_isHeld_L_holds_wsL_holds_r13 (goodIn_app ggL_isHeld_L_holds_wsL_holds_r14 ggL_isHeld_L_holds_wsL_holds_r15)))))))))))))) ggL_isHeld_L_holds_wsX40) ggL_isHeld_L_holds_wsX10) ggL_isHeld_L_holds_wsX30) ggL_isHeld_L_holds_wsX20) ggL_isHeld_L_holds_wsX00)) (goodIn_sub (fun _ h => List.mem_cons_of_mem _ (List.mem_append_left _ (List.mem_append_left _ (List.mem_append_right _ h)))) (by decide +kernel))) (goodIn_sub (fun _ h => List.mem_cons_of_mem _ (List.mem_append_left _ (List.mem_append_right _ h))) (by decide +kernel))) (goodIn_sub (fun _ h => List.mem_cons_of_mem _ (List.mem_append_right _ h)) (by decide +kernel))
set_option maxRecDepth 20000 in
theorem gL_isHeld_L_holds : GoodIn wsL_isHeld (va_wsS RL 149 yL_holds wsL_holds) := goodIn_app (goodIn_of _ (by decide +kernel)) ggL_isHeld_L_holds

/-! THE LAW's own rows: words of its calls, its code (printed) -/
theorem wsL_law_in0 : ∀ w ∈ wsL_law0, w ∈ lw_tbl := fun w h => (List.mem_append.mp h).elim (fun h => (List.mem_append.mp h).elim (fun h => (List.mem_append.mp h).elim (fun h => (List.mem_append.mp h).elim (fun h => (List.mem_append.mp h).elim (fun h => (List.mem_append.mp h).elim (fun h => (List.mem_append.mp h).elim (fun h => lwin_1 w h) (fun h => (List.mem_append.mp h).elim (fun h => lwin_2 w h) (fun h => (List.mem_append.mp h).elim (fun h => lwin_3 w h) (fun h => (List.mem_append.mp h).elim (fun h => lwin_4 w h) (fun h => (List.mem_append.mp h).elim (fun h => lwin_5 w h) (fun h => (List.mem_append.mp h).elim (fun h => lwin_6 w h) (fun h => (List.mem_append.mp h).elim (fun h => lwin_7 w h) (fun h => (List.mem_append.mp h).elim (fun h => lwin_8 w h) (fun h => (List.mem_append.mp h).elim (fun h => lwin_9 w h) (fun h => (List.mem_append.mp h).elim (fun h => lwin_10 w h) (fun h => (List.mem_append.mp h).elim (fun h => lwin_11 w h) (fun h => (List.mem_append.mp h).elim (fun h => lwin_12 w h) (fun h => (List.mem_append.mp h).elim (fun h => lwin_13 w h) (fun h => (List.mem_append.mp h).elim (fun h => lwin_14 w h) (fun h => (List.mem_append.mp h).elim (fun h => lwin_15 w h) (fun h => (List.mem_append.mp h).elim (fun h => lwin_16 w h) (fun h => (List.mem_append.mp h).elim (fun h => lwin_17 w h) (fun h => (List.mem_append.mp h).elim (fun h => lwin_18 w h) (fun h => (List.mem_append.mp h).elim (fun h => lwin_19 w h) (fun h => lwin_20 w h)))))))))))))))))))) (fun h => lwinX40 w h)) (fun h => lwinX20 w h)) (fun h => lwinX10 w h)) (fun h => lwinX30 w h)) (fun h => lwinX00 w h)) (fun h => absurd h List.not_mem_nil)
def wsL_law : List Cond := wsL_law0 ++ (vx_atS RX4 74 "java/lang/IllegalArgumentException" ["java/lang/RuntimeException", "java/lang/Exception"]).filter goodWord ++ (vx_atS RX4 116 "java/lang/IllegalStateException" ["java/lang/RuntimeException", "java/lang/Exception"]).filter goodWord ++ (vx_atS RX4 95 "java/lang/IndexOutOfBoundsException" ["java/lang/RuntimeException", "java/lang/Exception"]).filter goodWord
theorem wsL_law_x0 : ∀ w ∈ (vx_atS RX4 74 "java/lang/IllegalArgumentException" ["java/lang/RuntimeException", "java/lang/Exception"]).filter goodWord, w ∈ lw_tbl := by decide +kernel
theorem wsL_law_x1 : ∀ w ∈ (vx_atS RX4 116 "java/lang/IllegalStateException" ["java/lang/RuntimeException", "java/lang/Exception"]).filter goodWord, w ∈ lw_tbl := by decide +kernel
theorem wsL_law_x2 : ∀ w ∈ (vx_atS RX4 95 "java/lang/IndexOutOfBoundsException" ["java/lang/RuntimeException", "java/lang/Exception"]).filter goodWord, w ∈ lw_tbl := by decide +kernel
theorem wsL_law_in : ∀ w ∈ wsL_law, w ∈ lw_tbl := fun w h => (List.mem_append.mp h).elim (fun h => (List.mem_append.mp h).elim (fun h => (List.mem_append.mp h).elim (fun h => wsL_law_in0 w h) (fun h => wsL_law_x0 w h)) (fun h => wsL_law_x1 w h)) (fun h => wsL_law_x2 w h)
theorem inlX0 : ∀ w ∈ wsX00, w ∈ wsL_law := fun _ h => List.mem_append_left _ (List.mem_append_left _ (List.mem_append_left _ (List.mem_append_left _ (List.mem_append_right _ h))))
theorem inX0 : ∀ w ∈ wsX00, w ∈ lw_tbl := fun w h => wsL_law_in w (inlX0 w h)
theorem inlX1 : ∀ w ∈ wsX10, w ∈ wsL_law := fun _ h => List.mem_append_left _ (List.mem_append_left _ (List.mem_append_left _ (List.mem_append_left _ (List.mem_append_left _ (List.mem_append_left _ (List.mem_append_right _ h))))))
theorem inX1 : ∀ w ∈ wsX10, w ∈ lw_tbl := fun w h => wsL_law_in w (inlX1 w h)
theorem inlX2 : ∀ w ∈ wsX20, w ∈ wsL_law := fun _ h => List.mem_append_left _ (List.mem_append_left _ (List.mem_append_left _ (List.mem_append_left _ (List.mem_append_left _ (List.mem_append_left _ (List.mem_append_left _ (List.mem_append_right _ h)))))))
theorem inX2 : ∀ w ∈ wsX20, w ∈ lw_tbl := fun w h => wsL_law_in w (inlX2 w h)
theorem inlX3 : ∀ w ∈ wsX30, w ∈ wsL_law := fun _ h => List.mem_append_left _ (List.mem_append_left _ (List.mem_append_left _ (List.mem_append_left _ (List.mem_append_left _ (List.mem_append_right _ h)))))
theorem inX3 : ∀ w ∈ wsX30, w ∈ lw_tbl := fun w h => wsL_law_in w (inlX3 w h)
theorem inlX4 : ∀ w ∈ wsX40, w ∈ wsL_law := fun _ h => List.mem_append_left _ (List.mem_append_left _ (List.mem_append_left _ (List.mem_append_left _ (List.mem_append_left _ (List.mem_append_left _ (List.mem_append_left _ (List.mem_append_left _ (List.mem_append_right _ h))))))))
theorem inX4 : ∀ w ∈ wsX40, w ∈ lw_tbl := fun w h => wsL_law_in w (inlX4 w h)
set_option maxRecDepth 20000 in
theorem ggL_law_X4_init : GoodIn wsL_law wsX4_init := goodIn_r _ [11, 12, 13, 14, 15, 16, 17, 18, 19, 20, 21, 22, 23, 24, 25, 26, 27, 28, 29, 30, 31, 32, 33, 34, 35, 36, 37, 38, 39, 40, 41, 42, 43, 44, 45, 46, 5, 6, 7, 3, 47, 48, 49, 50, 51, 52, 53, 54, 55, 56, 57, 58, 59, 60, 61, 62, 63, 64, 65, 66, 67, 476, 477, 478, 479, 480, 481, 482, 483, 484, 485, 486, 487, 488, 489, 490, 491, 492, 493, 494] (by decide +kernel) (by decide +kernel)
set_option maxRecDepth 20000 in
theorem gL_law_X4_init : GoodIn wsL_law (wsX4_init) := ggL_law_X4_init
set_option maxRecDepth 20000 in
theorem ggL_law_L_cell : GoodIn wsL_law wsL_cell := goodIn_r _ [71, 72] (by decide +kernel) (by decide +kernel)
set_option maxRecDepth 20000 in
theorem gL_law_L_cell : GoodIn wsL_law (va_wsS RL 12 yL_cell wsL_cell) := goodIn_app (goodIn_of _ (by decide +kernel)) ggL_law_L_cell
set_option maxRecDepth 20000 in
theorem ggL_law_L_below : GoodIn wsL_law wsL_below := goodIn_r _ [75, 76] (by decide +kernel) (by decide +kernel)
set_option maxRecDepth 20000 in
theorem gL_law_L_below : GoodIn wsL_law (va_wsS RL 18 yL_below wsL_below) := goodIn_app (goodIn_of _ (by decide +kernel)) ggL_law_L_below
set_option maxRecDepth 20000 in
theorem ggL_law_X4_lengthWith : GoodIn wsL_law wsX4_lengthWith := goodIn_ca (goodIn_ca (goodIn_ca (goodIn_r _ [80, 31, 22, 16, 81, 82, 83, 2, 84, 85, 86, 87, 88, 89, 90, 91, 92, 93, 94, 95, 96, 97, 98, 99, 100, 25, 101, 102, 103, 104, 105, 60, 106, 107, 108, 109, 110, 111, 112, 113, 47, 114, 57, 58, 59, 56, 115, 116, 117, 21, 118, 52, 53, 119, 120, 121, 122, 123, 124, 125, 126, 127, 128, 129, 130, 131, 132, 133, 134, 135, 136, 137, 138, 139, 140, 141, 142, 143, 144, 145, 146, 147, 148, 149, 150, 151, 152, 153, 154, 155, 156, 157, 6, 158, 46, 5, 7, 159, 160, 161, 162, 163, 164, 165, 166, 167, 168, 169, 170, 171, 172, 173, 174, 175, 176, 177, 178, 179, 180, 181, 182, 183, 184, 185, 186, 187, 188, 189, 190, 191, 192, 18, 193, 39, 40, 41, 194, 195, 196, 197, 198, 199, 476, 477, 478, 479, 480, 481, 482, 483, 484, 485, 486, 491, 492, 487, 488, 489, 490] (by decide +kernel) (by decide +kernel)) (goodIn_sub (fun _ h => List.mem_append_left _ (List.mem_append_left _ (List.mem_append_right _ h))) (by decide +kernel))) (goodIn_sub (fun _ h => List.mem_append_left _ (List.mem_append_right _ h)) (by decide +kernel))) (goodIn_sub (fun _ h => List.mem_append_right _ h) (by decide +kernel))
set_option maxRecDepth 20000 in
theorem gL_law_X4_lengthWith : GoodIn wsL_law (wsV RL 22 RX4 yX4_lengthWith wsX4_lengthWith) := goodIn_app (goodIn_of _ (by decide +kernel)) ggL_law_X4_lengthWith
set_option maxRecDepth 20000 in
theorem ggL_law_X4_token : GoodIn wsL_law wsX4_token := goodIn_ca (goodIn_ca (goodIn_ca (goodIn_r _ [203, 81, 82, 83, 2, 84, 85, 86, 87, 88, 89, 90, 91, 92, 93, 94, 16, 95, 96, 97, 56, 57, 58, 25, 59, 60, 47, 204, 205, 206, 207, 22, 115, 116, 117, 21, 118, 52, 53, 119, 120, 121, 103, 104, 105, 122, 111, 112, 113, 123, 124, 125, 126, 127, 128, 129, 130, 131, 132, 133, 134, 135, 136, 137, 138, 139, 140, 141, 142, 143, 144, 145, 146, 147, 148, 149, 150, 151, 110, 152, 153, 154, 155, 156, 157, 6, 158, 46, 5, 7, 159, 160, 161, 162, 163, 107, 108, 109, 114, 164, 165, 166, 167, 168, 169, 170, 171, 172, 173, 174, 175, 176, 177, 178, 179, 180, 181, 182, 183, 184, 185, 186, 187, 188, 189, 190, 191, 192, 18, 193, 39, 40, 41, 194, 195, 196, 197, 198, 199, 99, 100, 101, 102, 106, 208, 209, 210, 211, 30, 26, 212, 213, 214, 29, 215, 65, 66, 216, 217, 218, 219, 220, 221, 483, 484, 485, 486, 491, 492, 476, 477, 478, 479, 480, 481, 482, 487, 488, 489, 490, 493, 494] (by decide +kernel) (by decide +kernel)) (goodIn_sub (fun _ h => List.mem_append_left _ (List.mem_append_left _ (List.mem_append_right _ h))) (by decide +kernel))) (goodIn_sub (fun _ h => List.mem_append_left _ (List.mem_append_right _ h)) (by decide +kernel))) (goodIn_sub (fun _ h => List.mem_append_right _ h) (by decide +kernel))
set_option maxRecDepth 20000 in
theorem gL_law_X4_token : GoodIn wsL_law (wsV RL 25 RX4 yX4_token wsX4_token) := goodIn_app (goodIn_of _ (by decide +kernel)) ggL_law_X4_token
set_option maxRecDepth 20000 in
theorem ggL_law_X4_ofProgram : GoodIn wsL_law wsX4_ofProgram := goodIn_ca (goodIn_ca (goodIn_r _ [225, 85, 86, 89, 90, 91, 2, 92, 93, 94, 16, 483, 484, 485, 486, 491, 492, 476, 477, 478, 479, 480, 481, 482] (by decide +kernel) (by decide +kernel)) (goodIn_sub (fun _ h => List.mem_append_left _ (List.mem_append_left _ (List.mem_append_right _ h))) (by decide +kernel))) (goodIn_sub (fun _ h => List.mem_append_right _ h) (by decide +kernel))
set_option maxRecDepth 20000 in
theorem gL_law_X4_ofProgram : GoodIn wsL_law (wsV RL 28 RX4 yX4_ofProgram wsX4_ofProgram) := goodIn_app (goodIn_of _ (by decide +kernel)) ggL_law_X4_ofProgram
set_option maxRecDepth 20000 in
theorem ggL_law_X4_untoken : GoodIn wsL_law wsX4_untoken := goodIn_ca (goodIn_ca (goodIn_r _ [229, 85, 86, 89, 90, 91, 2, 92, 93, 94, 16, 230, 153, 154, 25, 155, 60, 156, 157, 6, 158, 46, 5, 7, 204, 205, 206, 207, 22, 115, 116, 117, 21, 118, 52, 53, 119, 120, 121, 103, 104, 105, 122, 111, 112, 113, 47, 123, 124, 125, 126, 127, 128, 129, 130, 131, 132, 133, 134, 135, 136, 137, 138, 139, 57, 58, 59, 140, 141, 142, 143, 144, 145, 146, 147, 148, 149, 150, 151, 110, 152, 159, 160, 161, 162, 163, 107, 108, 109, 114, 164, 165, 166, 167, 168, 169, 170, 171, 172, 173, 174, 175, 176, 177, 178, 179, 180, 181, 182, 183, 184, 185, 186, 187, 188, 189, 190, 191, 192, 18, 193, 39, 40, 41, 194, 195, 196, 197, 198, 199, 99, 100, 101, 102, 106, 208, 209, 210, 211, 30, 26, 212, 213, 214, 29, 215, 65, 66, 216, 217, 218, 219, 220, 221, 483, 484, 485, 486, 491, 492, 476, 477, 478, 479, 480, 481, 482, 487, 488, 489, 490, 493, 494] (by decide +kernel) (by decide +kernel)) (goodIn_sub (fun _ h => List.mem_append_left _ (List.mem_append_left _ (List.mem_append_right _ h))) (by decide +kernel))) (goodIn_sub (fun _ h => List.mem_append_right _ h) (by decide +kernel))
set_option maxRecDepth 20000 in
theorem gL_law_X4_untoken : GoodIn wsL_law (wsV RL 36 RX4 yX4_untoken wsX4_untoken) := goodIn_app (goodIn_of _ (by decide +kernel)) ggL_law_X4_untoken
set_option maxRecDepth 20000 in
theorem ggL_law_X4_tie : GoodIn wsL_law wsX4_tie := goodIn_ca (goodIn_ca (goodIn_r _ [234, 85, 86, 26, 235, 236, 2, 237, 93, 94, 238, 111, 112, 25, 113, 60, 47, 239, 173, 174, 175, 208, 209, 210, 211, 30, 16, 212, 213, 214, 29, 215, 65, 66, 216, 103, 104, 105, 217, 57, 58, 59, 218, 219, 220, 221, 476, 477, 478, 479, 480, 481, 482, 491, 492, 483, 484, 485, 486, 493, 494] (by decide +kernel) (by decide +kernel)) (goodIn_sub (fun _ h => List.mem_append_left _ (List.mem_append_left _ (List.mem_append_right _ h))) (by decide +kernel))) (goodIn_sub (fun _ h => List.mem_append_right _ h) (by decide +kernel))
set_option maxRecDepth 20000 in
theorem gL_law_X4_tie : GoodIn wsL_law (wsV RL 39 RX4 yX4_tie wsX4_tie) := goodIn_app (goodIn_of _ (by decide +kernel)) ggL_law_X4_tie
set_option maxRecDepth 20000 in
theorem ggL_law_X4_digest : GoodIn wsL_law wsX4_digest := goodIn_ca (goodIn_ca (goodIn_r _ [243, 244, 245, 246, 247, 2, 248, 249, 223, 224, 225, 85, 86, 89, 90, 91, 92, 93, 94, 16, 250, 251, 252, 253, 254, 255, 256, 257, 258, 259, 260, 25, 261, 60, 262, 263, 264, 265, 110, 111, 112, 113, 47, 266, 267, 268, 269, 238, 270, 271, 272, 273, 26, 235, 236, 237, 274, 275, 276, 277, 30, 278, 279, 280, 281, 282, 283, 284, 285, 286, 287, 288, 289, 290, 291, 29, 292, 65, 66, 293, 5, 6, 7, 294, 295, 296, 297, 46, 298, 299, 300, 301, 302, 303, 304, 305, 306, 307, 308, 309, 310, 311, 312, 313, 314, 315, 316, 317, 318, 319, 320, 321, 322, 323, 324, 325, 326, 327, 328, 329, 330, 331, 332, 333, 334, 335, 336, 337, 338, 339, 340, 341, 219, 220, 218, 342, 343, 344, 345, 346, 347, 348, 349, 350, 351, 352, 353, 354, 355, 356, 357, 358, 359, 360, 361, 362, 363, 364, 365, 366, 367, 368, 369, 370, 371, 372, 373, 374, 375, 376, 377, 378, 379, 380, 381, 382, 483, 484, 485, 486, 491, 492, 476, 477, 478, 479, 480, 481, 482, 493, 494] (by decide +kernel) (by decide +kernel)) (goodIn_sub (fun _ h => List.mem_append_left _ (List.mem_append_left _ (List.mem_append_right _ h))) (by decide +kernel))) (goodIn_sub (fun _ h => List.mem_append_right _ h) (by decide +kernel))
set_option maxRecDepth 20000 in
theorem gL_law_X4_digest : GoodIn wsL_law (wsV RL 42 RX4 yX4_digest wsX4_digest) := goodIn_app (goodIn_of _ (by decide +kernel)) ggL_law_X4_digest
set_option maxRecDepth 20000 in
theorem ggL_law_X4_period : GoodIn wsL_law wsX4_period := goodIn_ca (goodIn_r _ [257, 89, 90, 91, 2, 92, 93, 94, 16, 258, 259, 260, 25, 261, 60, 262, 263, 264, 265, 110, 111, 112, 113, 47, 483, 484, 485, 486, 476, 477, 478, 479, 480, 481, 482, 491, 492] (by decide +kernel) (by decide +kernel)) (goodIn_sub (fun _ h => List.mem_append_right _ h) (by decide +kernel))
set_option maxRecDepth 20000 in
theorem gL_law_X4_period : GoodIn wsL_law (wsV RL 46 RX4 yX4_period wsX4_period) := goodIn_app (goodIn_of _ (by decide +kernel)) ggL_law_X4_period
set_option maxRecDepth 20000 in
theorem ggL_law_X4_number : GoodIn wsL_law wsX4_number := goodIn_ca (goodIn_r _ [269, 93, 94, 89, 90, 91, 2, 92, 16, 238, 111, 112, 25, 113, 60, 47, 483, 484, 485, 486, 491, 492, 476, 477, 478, 479, 480, 481, 482] (by decide +kernel) (by decide +kernel)) (goodIn_sub (fun _ h => List.mem_append_right _ h) (by decide +kernel))
set_option maxRecDepth 20000 in
theorem gL_law_X4_number : GoodIn wsL_law (wsV RL 50 RX4 yX4_number wsX4_number) := goodIn_app (goodIn_of _ (by decide +kernel)) ggL_law_X4_number
set_option maxRecDepth 20000 in
theorem ggL_law_X4_cloth : GoodIn wsL_law wsX4_cloth := goodIn_ca (goodIn_r _ [277, 85, 86, 30, 16, 278, 279, 280, 25, 281, 60, 110, 111, 112, 113, 47, 282, 283, 284, 285, 286, 287, 288, 289, 290, 291, 29, 292, 65, 66, 293, 5, 6, 7, 294, 295, 296, 297, 46, 298, 2, 299, 300, 301, 302, 303, 304, 305, 306, 307, 308, 309, 310, 311, 312, 313, 476, 477, 478, 479, 480, 481, 482, 493, 494, 491, 492, 483, 484, 485, 486] (by decide +kernel) (by decide +kernel)) (goodIn_sub (fun _ h => List.mem_append_left _ (List.mem_append_left _ (List.mem_append_right _ h))) (by decide +kernel))
set_option maxRecDepth 20000 in
theorem gL_law_X4_cloth : GoodIn wsL_law (wsV RL 53 RX4 yX4_cloth wsX4_cloth) := goodIn_app (goodIn_of _ (by decide +kernel)) ggL_law_X4_cloth
set_option maxRecDepth 20000 in
theorem ggL_law_X4_tied : GoodIn wsL_law wsX4_tied := goodIn_ca (goodIn_r _ [273, 26, 235, 236, 2, 237, 93, 94, 238, 111, 112, 25, 113, 60, 47, 476, 477, 478, 479, 480, 481, 482, 491, 492] (by decide +kernel) (by decide +kernel)) (goodIn_sub (fun _ h => List.mem_append_right _ h) (by decide +kernel))
set_option maxRecDepth 20000 in
theorem gL_law_X4_tied : GoodIn wsL_law (wsV RL 56 RX4 yX4_tied wsX4_tied) := goodIn_app (goodIn_of _ (by decide +kernel)) ggL_law_X4_tied
set_option maxRecDepth 20000 in
theorem ggL_law_X4_field : GoodIn wsL_law wsX4_field := goodIn_ca (goodIn_ca (goodIn_r _ [390, 85, 86, 30, 391, 392, 393, 2, 394, 93, 94, 395, 396, 397, 398, 375, 376, 377, 29, 378, 65, 218, 111, 112, 25, 113, 60, 47, 219, 220, 371, 372, 373, 374, 16, 379, 380, 381, 382, 110, 399, 400, 401, 402, 66, 403, 404, 405, 406, 476, 477, 478, 479, 480, 481, 482, 493, 494, 491, 492, 483, 484, 485, 486] (by decide +kernel) (by decide +kernel)) (goodIn_sub (fun _ h => List.mem_append_left _ (List.mem_append_left _ (List.mem_append_right _ h))) (by decide +kernel))) (goodIn_sub (fun _ h => List.mem_append_right _ h) (by decide +kernel))
set_option maxRecDepth 20000 in
theorem gL_law_X4_field : GoodIn wsL_law (wsV RL 59 RX4 yX4_field wsX4_field) := goodIn_app (goodIn_of _ (by decide +kernel)) ggL_law_X4_field
set_option maxRecDepth 20000 in
theorem ggL_law_X4_repeat : GoodIn wsL_law wsX4_repeat := goodIn_r _ [317, 30, 318, 319, 320, 29, 321, 65, 66, 258, 259, 260, 25, 261, 60, 262, 263, 264, 265, 110, 111, 112, 113, 47, 476, 477, 478, 479, 480, 481, 482, 493, 494, 491, 492] (by decide +kernel) (by decide +kernel)
set_option maxRecDepth 20000 in
theorem gL_law_X4_repeat : GoodIn wsL_law (wsV RL 63 RX4 yX4_repeat wsX4_repeat) := goodIn_app (goodIn_of _ (by decide +kernel)) ggL_law_X4_repeat
set_option maxRecDepth 20000 in
theorem ggL_law_X4_seen : GoodIn wsL_law wsX4_seen := goodIn_ca (goodIn_r _ [370, 85, 86, 30, 371, 372, 373, 2, 374, 16, 375, 376, 377, 29, 378, 65, 218, 111, 112, 25, 113, 60, 47, 219, 220, 379, 380, 381, 382, 110, 476, 477, 478, 479, 480, 481, 482, 493, 494, 491, 492, 483, 484, 485, 486] (by decide +kernel) (by decide +kernel)) (goodIn_sub (fun _ h => List.mem_append_left _ (List.mem_append_left _ (List.mem_append_right _ h))) (by decide +kernel))
set_option maxRecDepth 20000 in
theorem gL_law_X4_seen : GoodIn wsL_law (wsV RL 67 RX4 yX4_seen wsX4_seen) := goodIn_app (goodIn_of _ (by decide +kernel)) ggL_law_X4_seen
set_option maxRecDepth 20000 in
theorem ggL_law_X4_floats : GoodIn wsL_law wsX4_floats := goodIn_ca (goodIn_r _ [358, 30, 359, 360, 2, 361, 85, 86, 362, 363, 364, 29, 365, 65, 66, 366, 301, 302, 25, 303, 60, 110, 111, 112, 113, 47, 304, 305, 282, 283, 284, 285, 286, 287, 288, 476, 477, 478, 479, 480, 481, 482, 493, 494, 491, 492] (by decide +kernel) (by decide +kernel)) (goodIn_sub (fun _ h => List.mem_append_left _ (List.mem_append_left _ (List.mem_append_right _ h))) (by decide +kernel))
set_option maxRecDepth 20000 in
theorem gL_law_X4_floats : GoodIn wsL_law (wsV RL 70 RX4 yX4_floats wsX4_floats) := goodIn_app (goodIn_of _ (by decide +kernel)) ggL_law_X4_floats
set_option maxRecDepth 20000 in
theorem ggL_law_X4_meanFloat : GoodIn wsL_law wsX4_meanFloat := goodIn_r _ [413, 30, 362, 363, 364, 29, 365, 65, 66, 366, 301, 302, 25, 303, 60, 110, 111, 112, 113, 47, 304, 2, 305, 282, 283, 284, 285, 286, 287, 288, 476, 477, 478, 479, 480, 481, 482, 493, 494, 491, 492] (by decide +kernel) (by decide +kernel)
set_option maxRecDepth 20000 in
theorem gL_law_X4_meanFloat : GoodIn wsL_law (wsV RL 73 RX4 yX4_meanFloat wsX4_meanFloat) := goodIn_app (goodIn_of _ (by decide +kernel)) ggL_law_X4_meanFloat
set_option maxRecDepth 20000 in
theorem ggL_law_J9_abs_294c1 : GoodIn wsL_law wsJ9_abs_294c1 := goodIn_r _ [417, 418, 419, 420, 421, 422, 423, 424, 425] (by decide +kernel) (by decide +kernel)
set_option maxRecDepth 20000 in
theorem gL_law_J9_abs_294c1 : GoodIn wsL_law (va_wsS RL 77 yJ9_abs_294c1 wsJ9_abs_294c1) := goodIn_app (goodIn_of _ (by decide +kernel)) ggL_law_J9_abs_294c1
set_option maxRecDepth 20000 in
theorem ggL_law_X4_hangs : GoodIn wsL_law wsX4_hangs := goodIn_r _ [325, 30, 326, 327, 328, 29, 329, 330, 319, 320, 321, 65, 66, 331, 332, 333, 334, 335, 336, 337, 338, 339, 340, 341, 219, 2, 220, 218, 111, 112, 25, 113, 60, 47, 342, 343, 344, 345, 346, 347, 476, 477, 478, 479, 480, 481, 482, 493, 494, 491, 492] (by decide +kernel) (by decide +kernel)
set_option maxRecDepth 20000 in
theorem gL_law_X4_hangs : GoodIn wsL_law (wsV RL 83 RX4 yX4_hangs wsX4_hangs) := goodIn_app (goodIn_of _ (by decide +kernel)) ggL_law_X4_hangs
set_option maxRecDepth 20000 in
theorem ggL_law_X4_reach : GoodIn wsL_law wsX4_reach := goodIn_r _ [351, 30, 318, 319, 320, 29, 321, 65, 66, 352, 336, 337, 338, 339, 340, 341, 219, 2, 220, 218, 111, 112, 25, 113, 60, 47, 342, 343, 353, 345, 346, 347, 335, 354, 283, 284, 285, 286, 287, 288, 476, 477, 478, 479, 480, 481, 482, 493, 494, 491, 492] (by decide +kernel) (by decide +kernel)
set_option maxRecDepth 20000 in
theorem gL_law_X4_reach : GoodIn wsL_law (wsV RL 87 RX4 yX4_reach wsX4_reach) := goodIn_app (goodIn_of _ (by decide +kernel)) ggL_law_X4_reach
set_option maxRecDepth 20000 in
theorem ggL_law_X4_where : GoodIn wsL_law wsX4_where := goodIn_ca (goodIn_r _ [431, 30, 359, 360, 2, 361, 85, 86, 432, 433, 434, 25, 435, 60, 110, 111, 112, 113, 47, 304, 305, 238, 436, 437, 438, 439, 406, 219, 220, 476, 477, 478, 479, 480, 481, 482, 493, 494, 491, 492] (by decide +kernel) (by decide +kernel)) (goodIn_sub (fun _ h => List.mem_append_left _ (List.mem_append_left _ (List.mem_append_right _ h))) (by decide +kernel))
set_option maxRecDepth 20000 in
theorem gL_law_X4_where : GoodIn wsL_law (wsV RL 90 RX4 yX4_where wsX4_where) := goodIn_app (goodIn_of _ (by decide +kernel)) ggL_law_X4_where
set_option maxRecDepth 20000 in
theorem ggL_law_X4_changedBy : GoodIn wsL_law wsX4_changedBy := goodIn_ca (goodIn_r _ [443, 30, 33, 444, 445, 2, 446, 93, 94, 447, 448, 449, 450, 32, 26, 451, 103, 104, 25, 105, 60, 238, 111, 112, 113, 47, 56, 57, 58, 59, 452, 453, 454, 455, 16, 212, 213, 214, 29, 215, 65, 66, 216, 217, 218, 219, 220, 221, 173, 174, 175, 354, 283, 284, 285, 286, 287, 288, 476, 477, 478, 479, 480, 481, 482, 493, 494, 491, 492, 483, 484, 485, 486] (by decide +kernel) (by decide +kernel)) (goodIn_sub (fun _ h => List.mem_append_right _ h) (by decide +kernel))
set_option maxRecDepth 20000 in
theorem gL_law_X4_changedBy : GoodIn wsL_law (wsV RL 94 RX4 yX4_changedBy wsX4_changedBy) := goodIn_app (goodIn_of _ (by decide +kernel)) ggL_law_X4_changedBy
set_option maxRecDepth 20000 in
theorem ggL_law_X4_floatWith : GoodIn wsL_law wsX4_floatWith := goodIn_ca (goodIn_r _ [459, 33, 460, 461, 462, 2, 463, 32, 26, 235, 236, 237, 93, 94, 444, 445, 446, 98, 99, 100, 25, 101, 102, 103, 104, 105, 60, 106, 107, 108, 109, 110, 111, 112, 113, 47, 114, 57, 58, 59, 238, 239, 173, 174, 175, 452, 453, 454, 455, 16, 212, 213, 214, 29, 215, 65, 66, 216, 217, 218, 219, 220, 221, 289, 290, 291, 292, 293, 5, 6, 7, 294, 295, 296, 297, 46, 298, 299, 476, 477, 478, 479, 480, 481, 482, 491, 492, 483, 484, 485, 486, 493, 494] (by decide +kernel) (by decide +kernel)) (goodIn_sub (fun _ h => List.mem_append_right _ h) (by decide +kernel))
set_option maxRecDepth 20000 in
theorem gL_law_X4_floatWith : GoodIn wsL_law (wsV RL 97 RX4 yX4_floatWith wsX4_floatWith) := goodIn_app (goodIn_of _ (by decide +kernel)) ggL_law_X4_floatWith
set_option maxRecDepth 20000 in
theorem ggL_law_X4_hangsWith : GoodIn wsL_law wsX4_hangsWith := goodIn_ca (goodIn_r _ [467, 33, 460, 461, 462, 2, 463, 32, 26, 235, 236, 237, 93, 94, 444, 445, 446, 98, 99, 100, 25, 101, 102, 103, 104, 105, 60, 106, 107, 108, 109, 110, 111, 112, 113, 47, 114, 57, 58, 59, 238, 239, 173, 174, 175, 452, 453, 454, 455, 16, 212, 213, 214, 29, 215, 65, 66, 216, 217, 218, 219, 220, 221, 326, 327, 328, 329, 330, 319, 320, 321, 331, 332, 333, 334, 335, 336, 337, 338, 339, 340, 341, 342, 343, 344, 345, 346, 347, 476, 477, 478, 479, 480, 481, 482, 491, 492, 483, 484, 485, 486, 493, 494] (by decide +kernel) (by decide +kernel)) (goodIn_sub (fun _ h => List.mem_append_right _ h) (by decide +kernel))
set_option maxRecDepth 20000 in
theorem gL_law_X4_hangsWith : GoodIn wsL_law (wsV RL 100 RX4 yX4_hangsWith wsX4_hangsWith) := goodIn_app (goodIn_of _ (by decide +kernel)) ggL_law_X4_hangsWith
set_option maxRecDepth 20000 in
theorem ggL_law_X4_swap : GoodIn wsL_law wsX4_swap := goodIn_ca (goodIn_r _ [471, 444, 445, 2, 446, 93, 94, 447, 448, 449, 450, 32, 26, 451, 103, 104, 25, 105, 60, 238, 111, 112, 113, 47, 56, 57, 58, 59, 472, 473, 474, 475, 98, 99, 100, 101, 102, 106, 107, 108, 109, 110, 114, 208, 209, 210, 211, 30, 16, 212, 213, 214, 29, 215, 65, 66, 216, 217, 218, 219, 220, 221, 173, 174, 175, 476, 477, 478, 479, 480, 481, 482, 491, 492, 483, 484, 485, 486, 493, 494] (by decide +kernel) (by decide +kernel)) (goodIn_sub (fun _ h => List.mem_append_right _ h) (by decide +kernel))
set_option maxRecDepth 20000 in
theorem gL_law_X4_swap : GoodIn wsL_law (wsV RL 104 RX4 yX4_swap wsX4_swap) := goodIn_app (goodIn_of _ (by decide +kernel)) ggL_law_X4_swap
theorem dL_law_0 : decode cL_law 0 = .ok (.new 9, 3) := by decide +kernel
theorem dL_law_3 : decode cL_law 3 = .ok (.dup, 1) := by decide +kernel
theorem dL_law_4 : decode cL_law 4 = .ok (.invokespecial 11, 3) := by decide +kernel
theorem dL_law_7 : decode cL_law 7 = .ok (.astore_n 1, 1) := by decide +kernel
theorem dL_law_8 : decode cL_law 8 = .ok (.bipush 10, 2) := by decide +kernel
theorem dL_law_10 : decode cL_law 10 = .ok (.newarray .int, 2) := by decide +kernel
theorem dL_law_12 : decode cL_law 12 = .ok (.dup, 1) := by decide +kernel
theorem dL_law_13 : decode cL_law 13 = .ok (.iconst 0, 1) := by decide +kernel
theorem dL_law_14 : decode cL_law 14 = .ok (.bipush 10, 2) := by decide +kernel
theorem dL_law_16 : decode cL_law 16 = .ok (.iastore, 1) := by decide +kernel
theorem dL_law_17 : decode cL_law 17 = .ok (.dup, 1) := by decide +kernel
theorem dL_law_18 : decode cL_law 18 = .ok (.iconst 1, 1) := by decide +kernel
theorem dL_law_19 : decode cL_law 19 = .ok (.bipush 11, 2) := by decide +kernel
theorem dL_law_21 : decode cL_law 21 = .ok (.iastore, 1) := by decide +kernel
theorem dL_law_22 : decode cL_law 22 = .ok (.dup, 1) := by decide +kernel
theorem dL_law_23 : decode cL_law 23 = .ok (.iconst 2, 1) := by decide +kernel
theorem dL_law_24 : decode cL_law 24 = .ok (.bipush 22, 2) := by decide +kernel
theorem dL_law_26 : decode cL_law 26 = .ok (.iastore, 1) := by decide +kernel
theorem dL_law_27 : decode cL_law 27 = .ok (.dup, 1) := by decide +kernel
theorem dL_law_28 : decode cL_law 28 = .ok (.iconst 3, 1) := by decide +kernel
theorem dL_law_29 : decode cL_law 29 = .ok (.bipush 23, 2) := by decide +kernel
theorem dL_law_31 : decode cL_law 31 = .ok (.iastore, 1) := by decide +kernel
theorem dL_law_32 : decode cL_law 32 = .ok (.dup, 1) := by decide +kernel
theorem dL_law_33 : decode cL_law 33 = .ok (.iconst 4, 1) := by decide +kernel
theorem dL_law_34 : decode cL_law 34 = .ok (.bipush 30, 2) := by decide +kernel
theorem dL_law_36 : decode cL_law 36 = .ok (.iastore, 1) := by decide +kernel
theorem dL_law_37 : decode cL_law 37 = .ok (.dup, 1) := by decide +kernel
theorem dL_law_38 : decode cL_law 38 = .ok (.iconst 5, 1) := by decide +kernel
theorem dL_law_39 : decode cL_law 39 = .ok (.bipush 31, 2) := by decide +kernel
theorem dL_law_41 : decode cL_law 41 = .ok (.iastore, 1) := by decide +kernel
theorem dL_law_42 : decode cL_law 42 = .ok (.dup, 1) := by decide +kernel
theorem dL_law_43 : decode cL_law 43 = .ok (.bipush 6, 2) := by decide +kernel
theorem dL_law_45 : decode cL_law 45 = .ok (.bipush 32, 2) := by decide +kernel
theorem dL_law_47 : decode cL_law 47 = .ok (.iastore, 1) := by decide +kernel
theorem dL_law_48 : decode cL_law 48 = .ok (.dup, 1) := by decide +kernel
theorem dL_law_49 : decode cL_law 49 = .ok (.bipush 7, 2) := by decide +kernel
theorem dL_law_51 : decode cL_law 51 = .ok (.bipush 33, 2) := by decide +kernel
theorem dL_law_53 : decode cL_law 53 = .ok (.iastore, 1) := by decide +kernel
theorem dL_law_54 : decode cL_law 54 = .ok (.dup, 1) := by decide +kernel
theorem dL_law_55 : decode cL_law 55 = .ok (.bipush 8, 2) := by decide +kernel
theorem dL_law_57 : decode cL_law 57 = .ok (.bipush 44, 2) := by decide +kernel
theorem dL_law_59 : decode cL_law 59 = .ok (.iastore, 1) := by decide +kernel
theorem dL_law_60 : decode cL_law 60 = .ok (.dup, 1) := by decide +kernel
theorem dL_law_61 : decode cL_law 61 = .ok (.bipush 9, 2) := by decide +kernel
theorem dL_law_63 : decode cL_law 63 = .ok (.bipush 45, 2) := by decide +kernel
theorem dL_law_65 : decode cL_law 65 = .ok (.iastore, 1) := by decide +kernel
theorem dL_law_66 : decode cL_law 66 = .ok (.astore_n 2, 1) := by decide +kernel
theorem dL_law_67 : decode cL_law 67 = .ok (.iconst 0, 1) := by decide +kernel
theorem dL_law_68 : decode cL_law 68 = .ok (.istore_n 3, 1) := by decide +kernel
theorem dL_law_69 : decode cL_law 69 = .ok (.iload_n 3, 1) := by decide +kernel
theorem dL_law_70 : decode cL_law 70 = .ok (.bipush 40, 2) := by decide +kernel
theorem dL_law_72 : decode cL_law 72 = .ok (.if_icmp .ge 186, 3) := by decide +kernel
theorem dL_law_75 : decode cL_law 75 = .ok (.aload_n 0, 1) := by decide +kernel
theorem dL_law_76 : decode cL_law 76 = .ok (.iload_n 3, 1) := by decide +kernel
theorem dL_law_77 : decode cL_law 77 = .ok (.bipush 16, 2) := by decide +kernel
theorem dL_law_79 : decode cL_law 79 = .ok (.irem, 1) := by decide +kernel
theorem dL_law_80 : decode cL_law 80 = .ok (.invokestatic 12, 3) := by decide +kernel
theorem dL_law_83 : decode cL_law 83 = .ok (.iload_n 3, 1) := by decide +kernel
theorem dL_law_84 : decode cL_law 84 = .ok (.bipush 16, 2) := by decide +kernel
theorem dL_law_86 : decode cL_law 86 = .ok (.idiv, 1) := by decide +kernel
theorem dL_law_87 : decode cL_law 87 = .ok (.iconst 3, 1) := by decide +kernel
theorem dL_law_88 : decode cL_law 88 = .ok (.imul, 1) := by decide +kernel
theorem dL_law_89 : decode cL_law 89 = .ok (.ishr, 1) := by decide +kernel
theorem dL_law_90 : decode cL_law 90 = .ok (.bipush 7, 2) := by decide +kernel
theorem dL_law_92 : decode cL_law 92 = .ok (.iload_n 3, 1) := by decide +kernel
theorem dL_law_93 : decode cL_law 93 = .ok (.imul, 1) := by decide +kernel
theorem dL_law_94 : decode cL_law 94 = .ok (.iadd, 1) := by decide +kernel
theorem dL_law_95 : decode cL_law 95 = .ok (.istore 4, 2) := by decide +kernel
theorem dL_law_97 : decode cL_law 97 = .ok (.iload 4, 2) := by decide +kernel
theorem dL_law_99 : decode cL_law 99 = .ok (.iconst 3, 1) := by decide +kernel
theorem dL_law_100 : decode cL_law 100 = .ok (.ishr, 1) := by decide +kernel
theorem dL_law_101 : decode cL_law 101 = .ok (.bipush 6, 2) := by decide +kernel
theorem dL_law_103 : decode cL_law 103 = .ok (.invokestatic 18, 3) := by decide +kernel
theorem dL_law_106 : decode cL_law 106 = .ok (.istore 5, 2) := by decide +kernel
theorem dL_law_108 : decode cL_law 108 = .ok (.iload 4, 2) := by decide +kernel
theorem dL_law_110 : decode cL_law 110 = .ok (.iconst 3, 1) := by decide +kernel
theorem dL_law_111 : decode cL_law 111 = .ok (.invokestatic 18, 3) := by decide +kernel
theorem dL_law_114 : decode cL_law 114 = .ok (.ifCond .le 15, 3) := by decide +kernel
theorem dL_law_117 : decode cL_law 117 = .ok (.iload 4, 2) := by decide +kernel
theorem dL_law_119 : decode cL_law 119 = .ok (.iconst 5, 1) := by decide +kernel
theorem dL_law_120 : decode cL_law 120 = .ok (.ishr, 1) := by decide +kernel
theorem dL_law_121 : decode cL_law 121 = .ok (.bipush 8, 2) := by decide +kernel
theorem dL_law_123 : decode cL_law 123 = .ok (.invokestatic 18, 3) := by decide +kernel
theorem dL_law_126 : decode cL_law 126 = .ok (.goto 14, 3) := by decide +kernel
theorem dL_law_129 : decode cL_law 129 = .ok (.aload_n 2, 1) := by decide +kernel
theorem dL_law_130 : decode cL_law 130 = .ok (.iload 4, 2) := by decide +kernel
theorem dL_law_132 : decode cL_law 132 = .ok (.iconst 5, 1) := by decide +kernel
theorem dL_law_133 : decode cL_law 133 = .ok (.ishr, 1) := by decide +kernel
theorem dL_law_134 : decode cL_law 134 = .ok (.bipush 10, 2) := by decide +kernel
theorem dL_law_136 : decode cL_law 136 = .ok (.invokestatic 18, 3) := by decide +kernel
theorem dL_law_139 : decode cL_law 139 = .ok (.iaload, 1) := by decide +kernel
theorem dL_law_140 : decode cL_law 140 = .ok (.istore 6, 2) := by decide +kernel
theorem dL_law_142 : decode cL_law 142 = .ok (.aload_n 1, 1) := by decide +kernel
theorem dL_law_143 : decode cL_law 143 = .ok (.iload 5, 2) := by decide +kernel
theorem dL_law_145 : decode cL_law 145 = .ok (.iload 6, 2) := by decide +kernel
theorem dL_law_147 : decode cL_law 147 = .ok (.invokevirtual 22, 3) := by decide +kernel
theorem dL_law_150 : decode cL_law 150 = .ok (.istore 7, 2) := by decide +kernel
theorem dL_law_152 : decode cL_law 152 = .ok (.aload_n 1, 1) := by decide +kernel
theorem dL_law_153 : decode cL_law 153 = .ok (.iload 5, 2) := by decide +kernel
theorem dL_law_155 : decode cL_law 155 = .ok (.iload 6, 2) := by decide +kernel
theorem dL_law_157 : decode cL_law 157 = .ok (.invokevirtual 25, 3) := by decide +kernel
theorem dL_law_160 : decode cL_law 160 = .ok (.istore 8, 2) := by decide +kernel
theorem dL_law_162 : decode cL_law 162 = .ok (.iload 8, 2) := by decide +kernel
theorem dL_law_164 : decode cL_law 164 = .ok (.aload_n 1, 1) := by decide +kernel
theorem dL_law_165 : decode cL_law 165 = .ok (.iload 5, 2) := by decide +kernel
theorem dL_law_167 : decode cL_law 167 = .ok (.iconst 0, 1) := by decide +kernel
theorem dL_law_168 : decode cL_law 168 = .ok (.invokevirtual 28, 3) := by decide +kernel
theorem dL_law_171 : decode cL_law 171 = .ok (.if_icmp .ne 47, 3) := by decide +kernel
theorem dL_law_174 : decode cL_law 174 = .ok (.iload 7, 2) := by decide +kernel
theorem dL_law_176 : decode cL_law 176 = .ok (.ifCond .lt 7, 3) := by decide +kernel
theorem dL_law_179 : decode cL_law 179 = .ok (.iconst 1, 1) := by decide +kernel
theorem dL_law_180 : decode cL_law 180 = .ok (.goto 4, 3) := by decide +kernel
theorem dL_law_183 : decode cL_law 183 = .ok (.iconst 0, 1) := by decide +kernel
theorem dL_law_184 : decode cL_law 184 = .ok (.aload_n 1, 1) := by decide +kernel
theorem dL_law_185 : decode cL_law 185 = .ok (.iload 5, 2) := by decide +kernel
theorem dL_law_187 : decode cL_law 187 = .ok (.iconst 2, 1) := by decide +kernel
theorem dL_law_188 : decode cL_law 188 = .ok (.invokevirtual 28, 3) := by decide +kernel
theorem dL_law_191 : decode cL_law 191 = .ok (.ifCond .ne 7, 3) := by decide +kernel
theorem dL_law_194 : decode cL_law 194 = .ok (.iconst 1, 1) := by decide +kernel
theorem dL_law_195 : decode cL_law 195 = .ok (.goto 4, 3) := by decide +kernel
theorem dL_law_198 : decode cL_law 198 = .ok (.iconst 0, 1) := by decide +kernel
theorem dL_law_199 : decode cL_law 199 = .ok (.if_icmp .ne 19, 3) := by decide +kernel
theorem dL_law_202 : decode cL_law 202 = .ok (.aload_n 1, 1) := by decide +kernel
theorem dL_law_203 : decode cL_law 203 = .ok (.iload 5, 2) := by decide +kernel
theorem dL_law_205 : decode cL_law 205 = .ok (.iconst 1, 1) := by decide +kernel
theorem dL_law_206 : decode cL_law 206 = .ok (.invokevirtual 28, 3) := by decide +kernel
theorem dL_law_209 : decode cL_law 209 = .ok (.iconst 0, 1) := by decide +kernel
theorem dL_law_210 : decode cL_law 210 = .ok (.iload 7, 2) := by decide +kernel
theorem dL_law_212 : decode cL_law 212 = .ok (.invokestatic 31, 3) := by decide +kernel
theorem dL_law_215 : decode cL_law 215 = .ok (.if_icmp .eq 5, 3) := by decide +kernel
theorem dL_law_218 : decode cL_law 218 = .ok (.iconst 0, 1) := by decide +kernel
theorem dL_law_219 : decode cL_law 219 = .ok (.ireturn, 1) := by decide +kernel
theorem dL_law_220 : decode cL_law 220 = .ok (.iload 7, 2) := by decide +kernel
theorem dL_law_222 : decode cL_law 222 = .ok (.ifCond .ge 30, 3) := by decide +kernel
theorem dL_law_225 : decode cL_law 225 = .ok (.aload_n 1, 1) := by decide +kernel
theorem dL_law_226 : decode cL_law 226 = .ok (.iload 5, 2) := by decide +kernel
theorem dL_law_228 : decode cL_law 228 = .ok (.iconst 2, 1) := by decide +kernel
theorem dL_law_229 : decode cL_law 229 = .ok (.invokevirtual 28, 3) := by decide +kernel
theorem dL_law_232 : decode cL_law 232 = .ok (.iconst 3, 1) := by decide +kernel
theorem dL_law_233 : decode cL_law 233 = .ok (.if_icmp .eq 19, 3) := by decide +kernel
theorem dL_law_236 : decode cL_law 236 = .ok (.aload_n 1, 1) := by decide +kernel
theorem dL_law_237 : decode cL_law 237 = .ok (.iload 5, 2) := by decide +kernel
theorem dL_law_239 : decode cL_law 239 = .ok (.iconst 1, 1) := by decide +kernel
theorem dL_law_240 : decode cL_law 240 = .ok (.invokevirtual 36, 3) := by decide +kernel
theorem dL_law_243 : decode cL_law 243 = .ok (.iload 8, 2) := by decide +kernel
theorem dL_law_245 : decode cL_law 245 = .ok (.iconst 1, 1) := by decide +kernel
theorem dL_law_246 : decode cL_law 246 = .ok (.isub, 1) := by decide +kernel
theorem dL_law_247 : decode cL_law 247 = .ok (.if_icmp .eq 5, 3) := by decide +kernel
theorem dL_law_250 : decode cL_law 250 = .ok (.iconst 0, 1) := by decide +kernel
theorem dL_law_251 : decode cL_law 251 = .ok (.ireturn, 1) := by decide +kernel
theorem dL_law_252 : decode cL_law 252 = .ok (.iinc 3 1, 3) := by decide +kernel
theorem dL_law_255 : decode cL_law 255 = .ok (.goto (-186), 3) := by decide +kernel
theorem dL_law_258 : decode cL_law 258 = .ok (.iconst 0, 1) := by decide +kernel
theorem dL_law_259 : decode cL_law 259 = .ok (.istore_n 3, 1) := by decide +kernel
theorem dL_law_260 : decode cL_law 260 = .ok (.iload_n 3, 1) := by decide +kernel
theorem dL_law_261 : decode cL_law 261 = .ok (.bipush 8, 2) := by decide +kernel
theorem dL_law_263 : decode cL_law 263 = .ok (.if_icmp .ge 28, 3) := by decide +kernel
theorem dL_law_266 : decode cL_law 266 = .ok (.aload_n 1, 1) := by decide +kernel
theorem dL_law_267 : decode cL_law 267 = .ok (.iload_n 3, 1) := by decide +kernel
theorem dL_law_268 : decode cL_law 268 = .ok (.aload_n 0, 1) := by decide +kernel
theorem dL_law_269 : decode cL_law 269 = .ok (.iload_n 3, 1) := by decide +kernel
theorem dL_law_270 : decode cL_law 270 = .ok (.invokestatic 12, 3) := by decide +kernel
theorem dL_law_273 : decode cL_law 273 = .ok (.iconst 2, 1) := by decide +kernel
theorem dL_law_274 : decode cL_law 274 = .ok (.ishr, 1) := by decide +kernel
theorem dL_law_275 : decode cL_law 275 = .ok (.sipush 256, 3) := by decide +kernel
theorem dL_law_278 : decode cL_law 278 = .ok (.invokestatic 18, 3) := by decide +kernel
theorem dL_law_281 : decode cL_law 281 = .ok (.invokevirtual 39, 3) := by decide +kernel
theorem dL_law_284 : decode cL_law 284 = .ok (.pop, 1) := by decide +kernel
theorem dL_law_285 : decode cL_law 285 = .ok (.iinc 3 1, 3) := by decide +kernel
theorem dL_law_288 : decode cL_law 288 = .ok (.goto (-28), 3) := by decide +kernel
theorem dL_law_291 : decode cL_law 291 = .ok (.aload_n 1, 1) := by decide +kernel
theorem dL_law_292 : decode cL_law 292 = .ok (.invokevirtual 42, 3) := by decide +kernel
theorem dL_law_295 : decode cL_law 295 = .ok (.lstore_n 3, 1) := by decide +kernel
theorem dL_law_296 : decode cL_law 296 = .ok (.iconst 0, 1) := by decide +kernel
theorem dL_law_297 : decode cL_law 297 = .ok (.istore 5, 2) := by decide +kernel
theorem dL_law_299 : decode cL_law 299 = .ok (.iload 5, 2) := by decide +kernel
theorem dL_law_301 : decode cL_law 301 = .ok (.bipush 10, 2) := by decide +kernel
theorem dL_law_303 : decode cL_law 303 = .ok (.if_icmp .ge 142, 3) := by decide +kernel
theorem dL_law_306 : decode cL_law 306 = .ok (.aload_n 1, 1) := by decide +kernel
theorem dL_law_307 : decode cL_law 307 = .ok (.iload 5, 2) := by decide +kernel
theorem dL_law_309 : decode cL_law 309 = .ok (.iconst 1, 1) := by decide +kernel
theorem dL_law_310 : decode cL_law 310 = .ok (.invokevirtual 28, 3) := by decide +kernel
theorem dL_law_313 : decode cL_law 313 = .ok (.istore 6, 2) := by decide +kernel
theorem dL_law_315 : decode cL_law 315 = .ok (.aload_n 1, 1) := by decide +kernel
theorem dL_law_316 : decode cL_law 316 = .ok (.iload 5, 2) := by decide +kernel
theorem dL_law_318 : decode cL_law 318 = .ok (.invokevirtual 46, 3) := by decide +kernel
theorem dL_law_321 : decode cL_law 321 = .ok (.istore 7, 2) := by decide +kernel
theorem dL_law_323 : decode cL_law 323 = .ok (.aload_n 1, 1) := by decide +kernel
theorem dL_law_324 : decode cL_law 324 = .ok (.iload 5, 2) := by decide +kernel
theorem dL_law_326 : decode cL_law 326 = .ok (.iconst 2, 1) := by decide +kernel
theorem dL_law_327 : decode cL_law 327 = .ok (.invokevirtual 28, 3) := by decide +kernel
theorem dL_law_330 : decode cL_law 330 = .ok (.ifCond .le 7, 3) := by decide +kernel
theorem dL_law_333 : decode cL_law 333 = .ok (.iconst 1, 1) := by decide +kernel
theorem dL_law_334 : decode cL_law 334 = .ok (.goto 4, 3) := by decide +kernel
theorem dL_law_337 : decode cL_law 337 = .ok (.iconst 0, 1) := by decide +kernel
theorem dL_law_338 : decode cL_law 338 = .ok (.aload_n 1, 1) := by decide +kernel
theorem dL_law_339 : decode cL_law 339 = .ok (.iload 5, 2) := by decide +kernel
theorem dL_law_341 : decode cL_law 341 = .ok (.iconst 3, 1) := by decide +kernel
theorem dL_law_342 : decode cL_law 342 = .ok (.invokevirtual 28, 3) := by decide +kernel
theorem dL_law_345 : decode cL_law 345 = .ok (.ifCond .lt 7, 3) := by decide +kernel
theorem dL_law_348 : decode cL_law 348 = .ok (.iconst 1, 1) := by decide +kernel
theorem dL_law_349 : decode cL_law 349 = .ok (.goto 4, 3) := by decide +kernel
theorem dL_law_352 : decode cL_law 352 = .ok (.iconst 0, 1) := by decide +kernel
theorem dL_law_353 : decode cL_law 353 = .ok (.if_icmp .ne 43, 3) := by decide +kernel
theorem dL_law_356 : decode cL_law 356 = .ok (.aload_n 1, 1) := by decide +kernel
theorem dL_law_357 : decode cL_law 357 = .ok (.iload 5, 2) := by decide +kernel
theorem dL_law_359 : decode cL_law 359 = .ok (.iconst 2, 1) := by decide +kernel
theorem dL_law_360 : decode cL_law 360 = .ok (.invokevirtual 28, 3) := by decide +kernel
theorem dL_law_363 : decode cL_law 363 = .ok (.ifCond .le 8, 3) := by decide +kernel
theorem dL_law_366 : decode cL_law 366 = .ok (.iload 6, 2) := by decide +kernel
theorem dL_law_368 : decode cL_law 368 = .ok (.ifCond .gt 28, 3) := by decide +kernel
theorem dL_law_371 : decode cL_law 371 = .ok (.iload 7, 2) := by decide +kernel
theorem dL_law_373 : decode cL_law 373 = .ok (.iload 6, 2) := by decide +kernel
theorem dL_law_375 : decode cL_law 375 = .ok (.if_icmp .gt 21, 3) := by decide +kernel
theorem dL_law_378 : decode cL_law 378 = .ok (.iload 6, 2) := by decide +kernel
theorem dL_law_380 : decode cL_law 380 = .ok (.ifCond .le 9, 3) := by decide +kernel
theorem dL_law_383 : decode cL_law 383 = .ok (.iload 7, 2) := by decide +kernel
theorem dL_law_385 : decode cL_law 385 = .ok (.iconst 1, 1) := by decide +kernel
theorem dL_law_386 : decode cL_law 386 = .ok (.if_icmp .lt 10, 3) := by decide +kernel
theorem dL_law_389 : decode cL_law 389 = .ok (.iload 6, 2) := by decide +kernel
theorem dL_law_391 : decode cL_law 391 = .ok (.bipush 32, 2) := by decide +kernel
theorem dL_law_393 : decode cL_law 393 = .ok (.if_icmp .le 5, 3) := by decide +kernel
theorem dL_law_396 : decode cL_law 396 = .ok (.iconst 0, 1) := by decide +kernel
theorem dL_law_397 : decode cL_law 397 = .ok (.ireturn, 1) := by decide +kernel
theorem dL_law_398 : decode cL_law 398 = .ok (.iload 7, 2) := by decide +kernel
theorem dL_law_400 : decode cL_law 400 = .ok (.istore 8, 2) := by decide +kernel
theorem dL_law_402 : decode cL_law 402 = .ok (.iload 8, 2) := by decide +kernel
theorem dL_law_404 : decode cL_law 404 = .ok (.iload 6, 2) := by decide +kernel
theorem dL_law_406 : decode cL_law 406 = .ok (.if_icmp .ge 33, 3) := by decide +kernel
theorem dL_law_409 : decode cL_law 409 = .ok (.aload_n 1, 1) := by decide +kernel
theorem dL_law_410 : decode cL_law 410 = .ok (.iload 5, 2) := by decide +kernel
theorem dL_law_412 : decode cL_law 412 = .ok (.iload 8, 2) := by decide +kernel
theorem dL_law_414 : decode cL_law 414 = .ok (.invokevirtual 50, 3) := by decide +kernel
theorem dL_law_417 : decode cL_law 417 = .ok (.aload_n 1, 1) := by decide +kernel
theorem dL_law_418 : decode cL_law 418 = .ok (.iload 5, 2) := by decide +kernel
theorem dL_law_420 : decode cL_law 420 = .ok (.iload 8, 2) := by decide +kernel
theorem dL_law_422 : decode cL_law 422 = .ok (.iload 7, 2) := by decide +kernel
theorem dL_law_424 : decode cL_law 424 = .ok (.isub, 1) := by decide +kernel
theorem dL_law_425 : decode cL_law 425 = .ok (.invokevirtual 50, 3) := by decide +kernel
theorem dL_law_428 : decode cL_law 428 = .ok (.if_icmp .eq 5, 3) := by decide +kernel
theorem dL_law_431 : decode cL_law 431 = .ok (.iconst 0, 1) := by decide +kernel
theorem dL_law_432 : decode cL_law 432 = .ok (.ireturn, 1) := by decide +kernel
theorem dL_law_433 : decode cL_law 433 = .ok (.iinc 8 1, 3) := by decide +kernel
theorem dL_law_436 : decode cL_law 436 = .ok (.goto (-34), 3) := by decide +kernel
theorem dL_law_439 : decode cL_law 439 = .ok (.iinc 5 1, 3) := by decide +kernel
theorem dL_law_442 : decode cL_law 442 = .ok (.goto (-143), 3) := by decide +kernel
theorem dL_law_445 : decode cL_law 445 = .ok (.aload_n 1, 1) := by decide +kernel
theorem dL_law_446 : decode cL_law 446 = .ok (.iconst 0, 1) := by decide +kernel
theorem dL_law_447 : decode cL_law 447 = .ok (.invokevirtual 53, 3) := by decide +kernel
theorem dL_law_450 : decode cL_law 450 = .ok (.istore 5, 2) := by decide +kernel
theorem dL_law_452 : decode cL_law 452 = .ok (.aload_n 1, 1) := by decide +kernel
theorem dL_law_453 : decode cL_law 453 = .ok (.iconst 1, 1) := by decide +kernel
theorem dL_law_454 : decode cL_law 454 = .ok (.invokevirtual 53, 3) := by decide +kernel
theorem dL_law_457 : decode cL_law 457 = .ok (.istore 6, 2) := by decide +kernel
theorem dL_law_459 : decode cL_law 459 = .ok (.iconst 0, 1) := by decide +kernel
theorem dL_law_460 : decode cL_law 460 = .ok (.istore 7, 2) := by decide +kernel
theorem dL_law_462 : decode cL_law 462 = .ok (.iconst 0, 1) := by decide +kernel
theorem dL_law_463 : decode cL_law 463 = .ok (.istore 8, 2) := by decide +kernel
theorem dL_law_465 : decode cL_law 465 = .ok (.iconst 0, 1) := by decide +kernel
theorem dL_law_466 : decode cL_law 466 = .ok (.istore 9, 2) := by decide +kernel
theorem dL_law_468 : decode cL_law 468 = .ok (.iload 9, 2) := by decide +kernel
theorem dL_law_470 : decode cL_law 470 = .ok (.iload 5, 2) := by decide +kernel
theorem dL_law_472 : decode cL_law 472 = .ok (.if_icmp .ge 218, 3) := by decide +kernel
theorem dL_law_475 : decode cL_law 475 = .ok (.iconst 0, 1) := by decide +kernel
theorem dL_law_476 : decode cL_law 476 = .ok (.istore 10, 2) := by decide +kernel
theorem dL_law_478 : decode cL_law 478 = .ok (.iload 10, 2) := by decide +kernel
theorem dL_law_480 : decode cL_law 480 = .ok (.iload 6, 2) := by decide +kernel
theorem dL_law_482 : decode cL_law 482 = .ok (.if_icmp .ge 202, 3) := by decide +kernel
theorem dL_law_485 : decode cL_law 485 = .ok (.aload_n 1, 1) := by decide +kernel
theorem dL_law_486 : decode cL_law 486 = .ok (.aload_n 1, 1) := by decide +kernel
theorem dL_law_487 : decode cL_law 487 = .ok (.iconst 1, 1) := by decide +kernel
theorem dL_law_488 : decode cL_law 488 = .ok (.iload 10, 2) := by decide +kernel
theorem dL_law_490 : decode cL_law 490 = .ok (.invokevirtual 50, 3) := by decide +kernel
theorem dL_law_493 : decode cL_law 493 = .ok (.invokevirtual 56, 3) := by decide +kernel
theorem dL_law_496 : decode cL_law 496 = .ok (.aload_n 1, 1) := by decide +kernel
theorem dL_law_497 : decode cL_law 497 = .ok (.iconst 0, 1) := by decide +kernel
theorem dL_law_498 : decode cL_law 498 = .ok (.iload 9, 2) := by decide +kernel
theorem dL_law_500 : decode cL_law 500 = .ok (.invokevirtual 50, 3) := by decide +kernel
theorem dL_law_503 : decode cL_law 503 = .ok (.ishr, 1) := by decide +kernel
theorem dL_law_504 : decode cL_law 504 = .ok (.iconst 1, 1) := by decide +kernel
theorem dL_law_505 : decode cL_law 505 = .ok (.iand, 1) := by decide +kernel
theorem dL_law_506 : decode cL_law 506 = .ok (.iconst 1, 1) := by decide +kernel
theorem dL_law_507 : decode cL_law 507 = .ok (.if_icmp .ne 7, 3) := by decide +kernel
theorem dL_law_510 : decode cL_law 510 = .ok (.iconst 1, 1) := by decide +kernel
theorem dL_law_511 : decode cL_law 511 = .ok (.goto 4, 3) := by decide +kernel
theorem dL_law_514 : decode cL_law 514 = .ok (.iconst 0, 1) := by decide +kernel
theorem dL_law_515 : decode cL_law 515 = .ok (.istore 11, 2) := by decide +kernel
theorem dL_law_517 : decode cL_law 517 = .ok (.iload 7, 2) := by decide +kernel
theorem dL_law_519 : decode cL_law 519 = .ok (.iload 11, 2) := by decide +kernel
theorem dL_law_521 : decode cL_law 521 = .ok (.ifCond .eq 7, 3) := by decide +kernel
theorem dL_law_524 : decode cL_law 524 = .ok (.iconst 1, 1) := by decide +kernel
theorem dL_law_525 : decode cL_law 525 = .ok (.goto 4, 3) := by decide +kernel
theorem dL_law_528 : decode cL_law 528 = .ok (.iconst 0, 1) := by decide +kernel
theorem dL_law_529 : decode cL_law 529 = .ok (.iadd, 1) := by decide +kernel
theorem dL_law_530 : decode cL_law 530 = .ok (.istore 7, 2) := by decide +kernel
theorem dL_law_532 : decode cL_law 532 = .ok (.aload_n 1, 1) := by decide +kernel
theorem dL_law_533 : decode cL_law 533 = .ok (.iload 9, 2) := by decide +kernel
theorem dL_law_535 : decode cL_law 535 = .ok (.iload 10, 2) := by decide +kernel
theorem dL_law_537 : decode cL_law 537 = .ok (.iconst 2, 1) := by decide +kernel
theorem dL_law_538 : decode cL_law 538 = .ok (.invokevirtual 59, 3) := by decide +kernel
theorem dL_law_541 : decode cL_law 541 = .ok (.istore 12, 2) := by decide +kernel
theorem dL_law_543 : decode cL_law 543 = .ok (.aload_n 1, 1) := by decide +kernel
theorem dL_law_544 : decode cL_law 544 = .ok (.iload 9, 2) := by decide +kernel
theorem dL_law_546 : decode cL_law 546 = .ok (.iload 10, 2) := by decide +kernel
theorem dL_law_548 : decode cL_law 548 = .ok (.iconst 0, 1) := by decide +kernel
theorem dL_law_549 : decode cL_law 549 = .ok (.invokevirtual 59, 3) := by decide +kernel
theorem dL_law_552 : decode cL_law 552 = .ok (.iload 11, 2) := by decide +kernel
theorem dL_law_554 : decode cL_law 554 = .ok (.ifCond .eq 7, 3) := by decide +kernel
theorem dL_law_557 : decode cL_law 557 = .ok (.iconst 1, 1) := by decide +kernel
theorem dL_law_558 : decode cL_law 558 = .ok (.goto 4, 3) := by decide +kernel
theorem dL_law_561 : decode cL_law 561 = .ok (.iconst 0, 1) := by decide +kernel
theorem dL_law_562 : decode cL_law 562 = .ok (.if_icmp .ne 36, 3) := by decide +kernel
theorem dL_law_565 : decode cL_law 565 = .ok (.iload 12, 2) := by decide +kernel
theorem dL_law_567 : decode cL_law 567 = .ok (.iconst 1, 1) := by decide +kernel
theorem dL_law_568 : decode cL_law 568 = .ok (.if_icmp .lt 30, 3) := by decide +kernel
theorem dL_law_571 : decode cL_law 571 = .ok (.iload 12, 2) := by decide +kernel
theorem dL_law_573 : decode cL_law 573 = .ok (.iload 11, 2) := by decide +kernel
theorem dL_law_575 : decode cL_law 575 = .ok (.ifCond .eq 8, 3) := by decide +kernel
theorem dL_law_578 : decode cL_law 578 = .ok (.iload 6, 2) := by decide +kernel
theorem dL_law_580 : decode cL_law 580 = .ok (.goto 5, 3) := by decide +kernel
theorem dL_law_583 : decode cL_law 583 = .ok (.iload 5, 2) := by decide +kernel
theorem dL_law_585 : decode cL_law 585 = .ok (.if_icmp .gt 13, 3) := by decide +kernel
theorem dL_law_588 : decode cL_law 588 = .ok (.iload 12, 2) := by decide +kernel
theorem dL_law_590 : decode cL_law 590 = .ok (.aload_n 1, 1) := by decide +kernel
theorem dL_law_591 : decode cL_law 591 = .ok (.iconst 3, 1) := by decide +kernel
theorem dL_law_592 : decode cL_law 592 = .ok (.invokevirtual 53, 3) := by decide +kernel
theorem dL_law_595 : decode cL_law 595 = .ok (.if_icmp .le 5, 3) := by decide +kernel
theorem dL_law_598 : decode cL_law 598 = .ok (.iconst 0, 1) := by decide +kernel
theorem dL_law_599 : decode cL_law 599 = .ok (.ireturn, 1) := by decide +kernel
theorem dL_law_600 : decode cL_law 600 = .ok (.aload_n 1, 1) := by decide +kernel
theorem dL_law_601 : decode cL_law 601 = .ok (.iconst 1, 1) := by decide +kernel
theorem dL_law_602 : decode cL_law 602 = .ok (.invokevirtual 63, 3) := by decide +kernel
theorem dL_law_605 : decode cL_law 605 = .ok (.istore 13, 2) := by decide +kernel
theorem dL_law_607 : decode cL_law 607 = .ok (.aload_n 1, 1) := by decide +kernel
theorem dL_law_608 : decode cL_law 608 = .ok (.iconst 0, 1) := by decide +kernel
theorem dL_law_609 : decode cL_law 609 = .ok (.invokevirtual 63, 3) := by decide +kernel
theorem dL_law_612 : decode cL_law 612 = .ok (.istore 14, 2) := by decide +kernel
theorem dL_law_614 : decode cL_law 614 = .ok (.iload 9, 2) := by decide +kernel
theorem dL_law_616 : decode cL_law 616 = .ok (.iload 13, 2) := by decide +kernel
theorem dL_law_618 : decode cL_law 618 = .ok (.if_icmp .lt 27, 3) := by decide +kernel
theorem dL_law_621 : decode cL_law 621 = .ok (.aload_n 1, 1) := by decide +kernel
theorem dL_law_622 : decode cL_law 622 = .ok (.iload 9, 2) := by decide +kernel
theorem dL_law_624 : decode cL_law 624 = .ok (.iload 13, 2) := by decide +kernel
theorem dL_law_626 : decode cL_law 626 = .ok (.isub, 1) := by decide +kernel
theorem dL_law_627 : decode cL_law 627 = .ok (.iload 10, 2) := by decide +kernel
theorem dL_law_629 : decode cL_law 629 = .ok (.iconst 0, 1) := by decide +kernel
theorem dL_law_630 : decode cL_law 630 = .ok (.invokevirtual 59, 3) := by decide +kernel
theorem dL_law_633 : decode cL_law 633 = .ok (.aload_n 1, 1) := by decide +kernel
theorem dL_law_634 : decode cL_law 634 = .ok (.iload 9, 2) := by decide +kernel
theorem dL_law_636 : decode cL_law 636 = .ok (.iload 10, 2) := by decide +kernel
theorem dL_law_638 : decode cL_law 638 = .ok (.iconst 0, 1) := by decide +kernel
theorem dL_law_639 : decode cL_law 639 = .ok (.invokevirtual 59, 3) := by decide +kernel
theorem dL_law_642 : decode cL_law 642 = .ok (.if_icmp .ne 34, 3) := by decide +kernel
theorem dL_law_645 : decode cL_law 645 = .ok (.iload 10, 2) := by decide +kernel
theorem dL_law_647 : decode cL_law 647 = .ok (.iload 14, 2) := by decide +kernel
theorem dL_law_649 : decode cL_law 649 = .ok (.if_icmp .lt 29, 3) := by decide +kernel
theorem dL_law_652 : decode cL_law 652 = .ok (.aload_n 1, 1) := by decide +kernel
theorem dL_law_653 : decode cL_law 653 = .ok (.iload 9, 2) := by decide +kernel
theorem dL_law_655 : decode cL_law 655 = .ok (.iload 10, 2) := by decide +kernel
theorem dL_law_657 : decode cL_law 657 = .ok (.iload 14, 2) := by decide +kernel
theorem dL_law_659 : decode cL_law 659 = .ok (.isub, 1) := by decide +kernel
theorem dL_law_660 : decode cL_law 660 = .ok (.iconst 0, 1) := by decide +kernel
theorem dL_law_661 : decode cL_law 661 = .ok (.invokevirtual 59, 3) := by decide +kernel
theorem dL_law_664 : decode cL_law 664 = .ok (.aload_n 1, 1) := by decide +kernel
theorem dL_law_665 : decode cL_law 665 = .ok (.iload 9, 2) := by decide +kernel
theorem dL_law_667 : decode cL_law 667 = .ok (.iload 10, 2) := by decide +kernel
theorem dL_law_669 : decode cL_law 669 = .ok (.iconst 0, 1) := by decide +kernel
theorem dL_law_670 : decode cL_law 670 = .ok (.invokevirtual 59, 3) := by decide +kernel
theorem dL_law_673 : decode cL_law 673 = .ok (.if_icmp .eq 5, 3) := by decide +kernel
theorem dL_law_676 : decode cL_law 676 = .ok (.iconst 0, 1) := by decide +kernel
theorem dL_law_677 : decode cL_law 677 = .ok (.ireturn, 1) := by decide +kernel
theorem dL_law_678 : decode cL_law 678 = .ok (.iinc 10 1, 3) := by decide +kernel
theorem dL_law_681 : decode cL_law 681 = .ok (.goto (-203), 3) := by decide +kernel
theorem dL_law_684 : decode cL_law 684 = .ok (.iinc 9 1, 3) := by decide +kernel
theorem dL_law_687 : decode cL_law 687 = .ok (.goto (-219), 3) := by decide +kernel
theorem dL_law_690 : decode cL_law 690 = .ok (.iconst 0, 1) := by decide +kernel
theorem dL_law_691 : decode cL_law 691 = .ok (.istore 9, 2) := by decide +kernel
theorem dL_law_693 : decode cL_law 693 = .ok (.iload 9, 2) := by decide +kernel
theorem dL_law_695 : decode cL_law 695 = .ok (.bipush 8, 2) := by decide +kernel
theorem dL_law_697 : decode cL_law 697 = .ok (.if_icmp .ge 20, 3) := by decide +kernel
theorem dL_law_700 : decode cL_law 700 = .ok (.iload 8, 2) := by decide +kernel
theorem dL_law_702 : decode cL_law 702 = .ok (.aload_n 1, 1) := by decide +kernel
theorem dL_law_703 : decode cL_law 703 = .ok (.iload 9, 2) := by decide +kernel
theorem dL_law_705 : decode cL_law 705 = .ok (.invokevirtual 67, 3) := by decide +kernel
theorem dL_law_708 : decode cL_law 708 = .ok (.iadd, 1) := by decide +kernel
theorem dL_law_709 : decode cL_law 709 = .ok (.istore 8, 2) := by decide +kernel
theorem dL_law_711 : decode cL_law 711 = .ok (.iinc 9 1, 3) := by decide +kernel
theorem dL_law_714 : decode cL_law 714 = .ok (.goto (-21), 3) := by decide +kernel
theorem dL_law_717 : decode cL_law 717 = .ok (.aload_n 1, 1) := by decide +kernel
theorem dL_law_718 : decode cL_law 718 = .ok (.iconst 4, 1) := by decide +kernel
theorem dL_law_719 : decode cL_law 719 = .ok (.invokevirtual 53, 3) := by decide +kernel
theorem dL_law_722 : decode cL_law 722 = .ok (.aload_n 1, 1) := by decide +kernel
theorem dL_law_723 : decode cL_law 723 = .ok (.iconst 5, 1) := by decide +kernel
theorem dL_law_724 : decode cL_law 724 = .ok (.invokevirtual 53, 3) := by decide +kernel
theorem dL_law_727 : decode cL_law 727 = .ok (.iadd, 1) := by decide +kernel
theorem dL_law_728 : decode cL_law 728 = .ok (.istore 9, 2) := by decide +kernel
theorem dL_law_730 : decode cL_law 730 = .ok (.iload 7, 2) := by decide +kernel
theorem dL_law_732 : decode cL_law 732 = .ok (.aload_n 1, 1) := by decide +kernel
theorem dL_law_733 : decode cL_law 733 = .ok (.iconst 2, 1) := by decide +kernel
theorem dL_law_734 : decode cL_law 734 = .ok (.invokevirtual 53, 3) := by decide +kernel
theorem dL_law_737 : decode cL_law 737 = .ok (.if_icmp .ne 83, 3) := by decide +kernel
theorem dL_law_740 : decode cL_law 740 = .ok (.iload 8, 2) := by decide +kernel
theorem dL_law_742 : decode cL_law 742 = .ok (.iload 5, 2) := by decide +kernel
theorem dL_law_744 : decode cL_law 744 = .ok (.iload 6, 2) := by decide +kernel
theorem dL_law_746 : decode cL_law 746 = .ok (.imul, 1) := by decide +kernel
theorem dL_law_747 : decode cL_law 747 = .ok (.if_icmp .ne 73, 3) := by decide +kernel
theorem dL_law_750 : decode cL_law 750 = .ok (.aload_n 1, 1) := by decide +kernel
theorem dL_law_751 : decode cL_law 751 = .ok (.iconst 1, 1) := by decide +kernel
theorem dL_law_752 : decode cL_law 752 = .ok (.invokevirtual 70, 3) := by decide +kernel
theorem dL_law_755 : decode cL_law 755 = .ok (.iload 9, 2) := by decide +kernel
theorem dL_law_757 : decode cL_law 757 = .ok (.if_icmp .ne 63, 3) := by decide +kernel
theorem dL_law_760 : decode cL_law 760 = .ok (.iload 9, 2) := by decide +kernel
theorem dL_law_762 : decode cL_law 762 = .ok (.ifCond .le 28, 3) := by decide +kernel
theorem dL_law_765 : decode cL_law 765 = .ok (.aload_n 1, 1) := by decide +kernel
theorem dL_law_766 : decode cL_law 766 = .ok (.invokevirtual 73, 3) := by decide +kernel
theorem dL_law_769 : decode cL_law 769 = .ok (.iload 9, 2) := by decide +kernel
theorem dL_law_771 : decode cL_law 771 = .ok (.i2d, 1) := by decide +kernel
theorem dL_law_772 : decode cL_law 772 = .ok (.dmul, 1) := by decide +kernel
theorem dL_law_773 : decode cL_law 773 = .ok (.iload 5, 2) := by decide +kernel
theorem dL_law_775 : decode cL_law 775 = .ok (.iload 6, 2) := by decide +kernel
theorem dL_law_777 : decode cL_law 777 = .ok (.imul, 1) := by decide +kernel
theorem dL_law_778 : decode cL_law 778 = .ok (.i2d, 1) := by decide +kernel
theorem dL_law_779 : decode cL_law 779 = .ok (.dsub, 1) := by decide +kernel
theorem dL_law_780 : decode cL_law 780 = .ok (.invokestatic 77, 3) := by decide +kernel
theorem dL_law_783 : decode cL_law 783 = .ok (.ldc2_w 81, 3) := by decide +kernel
theorem dL_law_786 : decode cL_law 786 = .ok (.dcmp .l, 1) := by decide +kernel
theorem dL_law_787 : decode cL_law 787 = .ok (.ifCond .gt 33, 3) := by decide +kernel
theorem dL_law_790 : decode cL_law 790 = .ok (.aload_n 1, 1) := by decide +kernel
theorem dL_law_791 : decode cL_law 791 = .ok (.bipush 8, 2) := by decide +kernel
theorem dL_law_793 : decode cL_law 793 = .ok (.invokevirtual 53, 3) := by decide +kernel
theorem dL_law_796 : decode cL_law 796 = .ok (.aload_n 1, 1) := by decide +kernel
theorem dL_law_797 : decode cL_law 797 = .ok (.bipush 6, 2) := by decide +kernel
theorem dL_law_799 : decode cL_law 799 = .ok (.invokevirtual 53, 3) := by decide +kernel
theorem dL_law_802 : decode cL_law 802 = .ok (.if_icmp .gt 18, 3) := by decide +kernel
theorem dL_law_805 : decode cL_law 805 = .ok (.aload_n 1, 1) := by decide +kernel
theorem dL_law_806 : decode cL_law 806 = .ok (.bipush 9, 2) := by decide +kernel
theorem dL_law_808 : decode cL_law 808 = .ok (.invokevirtual 53, 3) := by decide +kernel
theorem dL_law_811 : decode cL_law 811 = .ok (.aload_n 1, 1) := by decide +kernel
theorem dL_law_812 : decode cL_law 812 = .ok (.bipush 7, 2) := by decide +kernel
theorem dL_law_814 : decode cL_law 814 = .ok (.invokevirtual 53, 3) := by decide +kernel
theorem dL_law_817 : decode cL_law 817 = .ok (.if_icmp .le 5, 3) := by decide +kernel
theorem dL_law_820 : decode cL_law 820 = .ok (.iconst 0, 1) := by decide +kernel
theorem dL_law_821 : decode cL_law 821 = .ok (.ireturn, 1) := by decide +kernel
theorem dL_law_822 : decode cL_law 822 = .ok (.aload_n 1, 1) := by decide +kernel
theorem dL_law_823 : decode cL_law 823 = .ok (.invokevirtual 83, 3) := by decide +kernel
theorem dL_law_826 : decode cL_law 826 = .ok (.ifCond .eq 23, 3) := by decide +kernel
theorem dL_law_829 : decode cL_law 829 = .ok (.aload_n 1, 1) := by decide +kernel
theorem dL_law_830 : decode cL_law 830 = .ok (.iconst 1, 1) := by decide +kernel
theorem dL_law_831 : decode cL_law 831 = .ok (.invokevirtual 87, 3) := by decide +kernel
theorem dL_law_834 : decode cL_law 834 = .ok (.iload 5, 2) := by decide +kernel
theorem dL_law_836 : decode cL_law 836 = .ok (.if_icmp .ne 77, 3) := by decide +kernel
theorem dL_law_839 : decode cL_law 839 = .ok (.aload_n 1, 1) := by decide +kernel
theorem dL_law_840 : decode cL_law 840 = .ok (.iconst 0, 1) := by decide +kernel
theorem dL_law_841 : decode cL_law 841 = .ok (.invokevirtual 87, 3) := by decide +kernel
theorem dL_law_844 : decode cL_law 844 = .ok (.iload 6, 2) := by decide +kernel
theorem dL_law_846 : decode cL_law 846 = .ok (.if_icmp .ne 67, 3) := by decide +kernel
theorem dL_law_849 : decode cL_law 849 = .ok (.aload_n 1, 1) := by decide +kernel
theorem dL_law_850 : decode cL_law 850 = .ok (.iconst 1, 1) := by decide +kernel
theorem dL_law_851 : decode cL_law 851 = .ok (.iconst 1, 1) := by decide +kernel
theorem dL_law_852 : decode cL_law 852 = .ok (.invokevirtual 90, 3) := by decide +kernel
theorem dL_law_855 : decode cL_law 855 = .ok (.ifCond .lt 7, 3) := by decide +kernel
theorem dL_law_858 : decode cL_law 858 = .ok (.iconst 1, 1) := by decide +kernel
theorem dL_law_859 : decode cL_law 859 = .ok (.goto 4, 3) := by decide +kernel
theorem dL_law_862 : decode cL_law 862 = .ok (.iconst 0, 1) := by decide +kernel
theorem dL_law_863 : decode cL_law 863 = .ok (.aload_n 1, 1) := by decide +kernel
theorem dL_law_864 : decode cL_law 864 = .ok (.iconst 4, 1) := by decide +kernel
theorem dL_law_865 : decode cL_law 865 = .ok (.invokevirtual 53, 3) := by decide +kernel
theorem dL_law_868 : decode cL_law 868 = .ok (.ifCond .le 7, 3) := by decide +kernel
theorem dL_law_871 : decode cL_law 871 = .ok (.iconst 1, 1) := by decide +kernel
theorem dL_law_872 : decode cL_law 872 = .ok (.goto 4, 3) := by decide +kernel
theorem dL_law_875 : decode cL_law 875 = .ok (.iconst 0, 1) := by decide +kernel
theorem dL_law_876 : decode cL_law 876 = .ok (.if_icmp .ne 37, 3) := by decide +kernel
theorem dL_law_879 : decode cL_law 879 = .ok (.aload_n 1, 1) := by decide +kernel
theorem dL_law_880 : decode cL_law 880 = .ok (.iconst 3, 1) := by decide +kernel
theorem dL_law_881 : decode cL_law 881 = .ok (.invokevirtual 53, 3) := by decide +kernel
theorem dL_law_884 : decode cL_law 884 = .ok (.ifCond .le 31, 3) := by decide +kernel
theorem dL_law_887 : decode cL_law 887 = .ok (.aload_n 1, 1) := by decide +kernel
theorem dL_law_888 : decode cL_law 888 = .ok (.aload_n 1, 1) := by decide +kernel
theorem dL_law_889 : decode cL_law 889 = .ok (.iconst 3, 1) := by decide +kernel
theorem dL_law_890 : decode cL_law 890 = .ok (.invokevirtual 53, 3) := by decide +kernel
theorem dL_law_893 : decode cL_law 893 = .ok (.iconst 1, 1) := by decide +kernel
theorem dL_law_894 : decode cL_law 894 = .ok (.invokevirtual 90, 3) := by decide +kernel
theorem dL_law_897 : decode cL_law 897 = .ok (.ifCond .ge 18, 3) := by decide +kernel
theorem dL_law_900 : decode cL_law 900 = .ok (.aload_n 1, 1) := by decide +kernel
theorem dL_law_901 : decode cL_law 901 = .ok (.aload_n 1, 1) := by decide +kernel
theorem dL_law_902 : decode cL_law 902 = .ok (.iconst 3, 1) := by decide +kernel
theorem dL_law_903 : decode cL_law 903 = .ok (.invokevirtual 53, 3) := by decide +kernel
theorem dL_law_906 : decode cL_law 906 = .ok (.iconst 0, 1) := by decide +kernel
theorem dL_law_907 : decode cL_law 907 = .ok (.invokevirtual 90, 3) := by decide +kernel
theorem dL_law_910 : decode cL_law 910 = .ok (.ifCond .ge 5, 3) := by decide +kernel
theorem dL_law_913 : decode cL_law 913 = .ok (.iconst 0, 1) := by decide +kernel
theorem dL_law_914 : decode cL_law 914 = .ok (.ireturn, 1) := by decide +kernel
theorem dL_law_915 : decode cL_law 915 = .ok (.iconst 0, 1) := by decide +kernel
theorem dL_law_916 : decode cL_law 916 = .ok (.istore 10, 2) := by decide +kernel
theorem dL_law_918 : decode cL_law 918 = .ok (.iload 10, 2) := by decide +kernel
theorem dL_law_920 : decode cL_law 920 = .ok (.iconst 4, 1) := by decide +kernel
theorem dL_law_921 : decode cL_law 921 = .ok (.if_icmp .ge 200, 3) := by decide +kernel
theorem dL_law_924 : decode cL_law 924 = .ok (.aload_n 0, 1) := by decide +kernel
theorem dL_law_925 : decode cL_law 925 = .ok (.bipush 8, 2) := by decide +kernel
theorem dL_law_927 : decode cL_law 927 = .ok (.iload 10, 2) := by decide +kernel
theorem dL_law_929 : decode cL_law 929 = .ok (.iadd, 1) := by decide +kernel
theorem dL_law_930 : decode cL_law 930 = .ok (.invokestatic 12, 3) := by decide +kernel
theorem dL_law_933 : decode cL_law 933 = .ok (.bipush 8, 2) := by decide +kernel
theorem dL_law_935 : decode cL_law 935 = .ok (.invokestatic 18, 3) := by decide +kernel
theorem dL_law_938 : decode cL_law 938 = .ok (.istore 11, 2) := by decide +kernel
theorem dL_law_940 : decode cL_law 940 = .ok (.aload_n 0, 1) := by decide +kernel
theorem dL_law_941 : decode cL_law 941 = .ok (.bipush 12, 2) := by decide +kernel
theorem dL_law_943 : decode cL_law 943 = .ok (.iload 10, 2) := by decide +kernel
theorem dL_law_945 : decode cL_law 945 = .ok (.iadd, 1) := by decide +kernel
theorem dL_law_946 : decode cL_law 946 = .ok (.invokestatic 12, 3) := by decide +kernel
theorem dL_law_949 : decode cL_law 949 = .ok (.bipush 8, 2) := by decide +kernel
theorem dL_law_951 : decode cL_law 951 = .ok (.invokestatic 18, 3) := by decide +kernel
theorem dL_law_954 : decode cL_law 954 = .ok (.istore 12, 2) := by decide +kernel
theorem dL_law_956 : decode cL_law 956 = .ok (.aload_n 1, 1) := by decide +kernel
theorem dL_law_957 : decode cL_law 957 = .ok (.iload 11, 2) := by decide +kernel
theorem dL_law_959 : decode cL_law 959 = .ok (.iload 12, 2) := by decide +kernel
theorem dL_law_961 : decode cL_law 961 = .ok (.invokevirtual 94, 3) := by decide +kernel
theorem dL_law_964 : decode cL_law 964 = .ok (.istore 13, 2) := by decide +kernel
theorem dL_law_966 : decode cL_law 966 = .ok (.aload_n 1, 1) := by decide +kernel
theorem dL_law_967 : decode cL_law 967 = .ok (.iload 11, 2) := by decide +kernel
theorem dL_law_969 : decode cL_law 969 = .ok (.iload 12, 2) := by decide +kernel
theorem dL_law_971 : decode cL_law 971 = .ok (.invokevirtual 97, 3) := by decide +kernel
theorem dL_law_974 : decode cL_law 974 = .ok (.istore 14, 2) := by decide +kernel
theorem dL_law_976 : decode cL_law 976 = .ok (.aload_n 1, 1) := by decide +kernel
theorem dL_law_977 : decode cL_law 977 = .ok (.iload 11, 2) := by decide +kernel
theorem dL_law_979 : decode cL_law 979 = .ok (.iload 12, 2) := by decide +kernel
theorem dL_law_981 : decode cL_law 981 = .ok (.invokevirtual 100, 3) := by decide +kernel
theorem dL_law_984 : decode cL_law 984 = .ok (.istore 15, 2) := by decide +kernel
theorem dL_law_986 : decode cL_law 986 = .ok (.aload_n 1, 1) := by decide +kernel
theorem dL_law_987 : decode cL_law 987 = .ok (.invokevirtual 42, 3) := by decide +kernel
theorem dL_law_990 : decode cL_law 990 = .ok (.lload_n 3, 1) := by decide +kernel
theorem dL_law_991 : decode cL_law 991 = .ok (.lcmp, 1) := by decide +kernel
theorem dL_law_992 : decode cL_law 992 = .ok (.ifCond .eq 5, 3) := by decide +kernel
theorem dL_law_995 : decode cL_law 995 = .ok (.iconst 0, 1) := by decide +kernel
theorem dL_law_996 : decode cL_law 996 = .ok (.ireturn, 1) := by decide +kernel
theorem dL_law_997 : decode cL_law 997 = .ok (.aload_n 1, 1) := by decide +kernel
theorem dL_law_998 : decode cL_law 998 = .ok (.iload 11, 2) := by decide +kernel
theorem dL_law_1000 : decode cL_law 1000 = .ok (.invokevirtual 56, 3) := by decide +kernel
theorem dL_law_1003 : decode cL_law 1003 = .ok (.istore 16, 2) := by decide +kernel
theorem dL_law_1005 : decode cL_law 1005 = .ok (.aload_n 1, 1) := by decide +kernel
theorem dL_law_1006 : decode cL_law 1006 = .ok (.iload 11, 2) := by decide +kernel
theorem dL_law_1008 : decode cL_law 1008 = .ok (.iload 16, 2) := by decide +kernel
theorem dL_law_1010 : decode cL_law 1010 = .ok (.iconst 1, 1) := by decide +kernel
theorem dL_law_1011 : decode cL_law 1011 = .ok (.iload 12, 2) := by decide +kernel
theorem dL_law_1013 : decode cL_law 1013 = .ok (.ishl, 1) := by decide +kernel
theorem dL_law_1014 : decode cL_law 1014 = .ok (.ixor, 1) := by decide +kernel
theorem dL_law_1015 : decode cL_law 1015 = .ok (.invokevirtual 39, 3) := by decide +kernel
theorem dL_law_1018 : decode cL_law 1018 = .ok (.pop, 1) := by decide +kernel
theorem dL_law_1019 : decode cL_law 1019 = .ok (.aload_n 1, 1) := by decide +kernel
theorem dL_law_1020 : decode cL_law 1020 = .ok (.iconst 3, 1) := by decide +kernel
theorem dL_law_1021 : decode cL_law 1021 = .ok (.invokevirtual 53, 3) := by decide +kernel
theorem dL_law_1024 : decode cL_law 1024 = .ok (.iload 14, 2) := by decide +kernel
theorem dL_law_1026 : decode cL_law 1026 = .ok (.if_icmp .ne 30, 3) := by decide +kernel
theorem dL_law_1029 : decode cL_law 1029 = .ok (.aload_n 1, 1) := by decide +kernel
theorem dL_law_1030 : decode cL_law 1030 = .ok (.invokevirtual 83, 3) := by decide +kernel
theorem dL_law_1033 : decode cL_law 1033 = .ok (.iload 15, 2) := by decide +kernel
theorem dL_law_1035 : decode cL_law 1035 = .ok (.if_icmp .ne 21, 3) := by decide +kernel
theorem dL_law_1038 : decode cL_law 1038 = .ok (.aload_n 1, 1) := by decide +kernel
theorem dL_law_1039 : decode cL_law 1039 = .ok (.iload 11, 2) := by decide +kernel
theorem dL_law_1041 : decode cL_law 1041 = .ok (.iload 16, 2) := by decide +kernel
theorem dL_law_1043 : decode cL_law 1043 = .ok (.invokevirtual 39, 3) := by decide +kernel
theorem dL_law_1046 : decode cL_law 1046 = .ok (.iload 16, 2) := by decide +kernel
theorem dL_law_1048 : decode cL_law 1048 = .ok (.iconst 1, 1) := by decide +kernel
theorem dL_law_1049 : decode cL_law 1049 = .ok (.iload 12, 2) := by decide +kernel
theorem dL_law_1051 : decode cL_law 1051 = .ok (.ishl, 1) := by decide +kernel
theorem dL_law_1052 : decode cL_law 1052 = .ok (.ixor, 1) := by decide +kernel
theorem dL_law_1053 : decode cL_law 1053 = .ok (.if_icmp .eq 5, 3) := by decide +kernel
theorem dL_law_1056 : decode cL_law 1056 = .ok (.iconst 0, 1) := by decide +kernel
theorem dL_law_1057 : decode cL_law 1057 = .ok (.ireturn, 1) := by decide +kernel
theorem dL_law_1058 : decode cL_law 1058 = .ok (.aload_n 1, 1) := by decide +kernel
theorem dL_law_1059 : decode cL_law 1059 = .ok (.iload 11, 2) := by decide +kernel
theorem dL_law_1061 : decode cL_law 1061 = .ok (.iload 12, 2) := by decide +kernel
theorem dL_law_1063 : decode cL_law 1063 = .ok (.invokevirtual 104, 3) := by decide +kernel
theorem dL_law_1066 : decode cL_law 1066 = .ok (.istore 17, 2) := by decide +kernel
theorem dL_law_1068 : decode cL_law 1068 = .ok (.iload 17, 2) := by decide +kernel
theorem dL_law_1070 : decode cL_law 1070 = .ok (.ifCond .ne 8, 3) := by decide +kernel
theorem dL_law_1073 : decode cL_law 1073 = .ok (.iload 13, 2) := by decide +kernel
theorem dL_law_1075 : decode cL_law 1075 = .ok (.ifCond .ne 38, 3) := by decide +kernel
theorem dL_law_1078 : decode cL_law 1078 = .ok (.aload_n 1, 1) := by decide +kernel
theorem dL_law_1079 : decode cL_law 1079 = .ok (.iload 12, 2) := by decide +kernel
theorem dL_law_1081 : decode cL_law 1081 = .ok (.iload 11, 2) := by decide +kernel
theorem dL_law_1083 : decode cL_law 1083 = .ok (.invokevirtual 94, 3) := by decide +kernel
theorem dL_law_1086 : decode cL_law 1086 = .ok (.iload 13, 2) := by decide +kernel
theorem dL_law_1088 : decode cL_law 1088 = .ok (.if_icmp .ne 25, 3) := by decide +kernel
theorem dL_law_1091 : decode cL_law 1091 = .ok (.aload_n 1, 1) := by decide +kernel
theorem dL_law_1092 : decode cL_law 1092 = .ok (.iload 12, 2) := by decide +kernel
theorem dL_law_1094 : decode cL_law 1094 = .ok (.iload 11, 2) := by decide +kernel
theorem dL_law_1096 : decode cL_law 1096 = .ok (.invokevirtual 104, 3) := by decide +kernel
theorem dL_law_1099 : decode cL_law 1099 = .ok (.iload 17, 2) := by decide +kernel
theorem dL_law_1101 : decode cL_law 1101 = .ok (.if_icmp .ne 12, 3) := by decide +kernel
theorem dL_law_1104 : decode cL_law 1104 = .ok (.aload_n 1, 1) := by decide +kernel
theorem dL_law_1105 : decode cL_law 1105 = .ok (.invokevirtual 42, 3) := by decide +kernel
theorem dL_law_1108 : decode cL_law 1108 = .ok (.lload_n 3, 1) := by decide +kernel
theorem dL_law_1109 : decode cL_law 1109 = .ok (.lcmp, 1) := by decide +kernel
theorem dL_law_1110 : decode cL_law 1110 = .ok (.ifCond .eq 5, 3) := by decide +kernel
theorem dL_law_1113 : decode cL_law 1113 = .ok (.iconst 0, 1) := by decide +kernel
theorem dL_law_1114 : decode cL_law 1114 = .ok (.ireturn, 1) := by decide +kernel
theorem dL_law_1115 : decode cL_law 1115 = .ok (.iinc 10 1, 3) := by decide +kernel
theorem dL_law_1118 : decode cL_law 1118 = .ok (.goto (-200), 3) := by decide +kernel
theorem dL_law_1121 : decode cL_law 1121 = .ok (.iconst 1, 1) := by decide +kernel
theorem dL_law_1122 : decode cL_law 1122 = .ok (.ireturn, 1) := by decide +kernel

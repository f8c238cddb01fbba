/-! THE LAW's calls: words (printed rows) -/
set_option maxRecDepth 20000 in
theorem ggL_law_L_number : GoodIn wsL_law wsL_number := goodIn_ca (goodIn_r _ [430, 150, 431, 432, 433, 2, 434, 169, 170, 165, 166, 167, 168, 14, 435, 189, 190, 23, 191, 62, 49, 1053, 1054, 1055, 1056, 1061, 1062, 1042, 1043, 1044, 1045, 1046, 1047, 1048] (by decide +kernel) (by decide +kernel)) (goodIn_sub (fun _ h => List.mem_append_right _ h) (by decide +kernel))
set_option maxRecDepth 20000 in
theorem gL_law_L_number : GoodIn wsL_law (va_wsS RL 97 yL_number wsL_number) := goodIn_app (goodIn_of _ (by decide +kernel)) ggL_law_L_number
set_option maxRecDepth 20000 in
theorem ggL_law_X8_number : GoodIn wsL_law wsX8_number := goodIn_r _ [439, 296, 297, 298, 5, 299, 300, 301, 302, 303, 304, 305, 306, 307, 308, 309, 310, 311, 440, 441, 442, 443, 402, 403, 404, 405, 79, 78, 406, 407, 77, 295, 315, 316, 317, 76, 318, 102, 319, 320, 321, 322, 323, 324, 325, 326, 327, 328, 329, 330, 85, 408, 409, 410, 411, 412, 48, 413, 414, 415, 416, 417, 418, 419, 420, 421, 422, 423, 332, 333, 334, 424, 425, 426, 427, 143, 144, 145, 1049, 1050, 1051, 1052, 1069, 1070, 1071, 1072, 1073, 1065, 1066, 1067, 1074] (by decide +kernel) (by decide +kernel)
set_option maxRecDepth 20000 in
theorem gL_law_X8_number : GoodIn wsL_law (wsV RL 99 RX8 yX8_number wsX8_number) := goodIn_app (goodIn_of _ (by decide +kernel)) ggL_law_X8_number
set_option maxRecDepth 20000 in
theorem ggL_law_L_period : GoodIn wsL_law wsL_period := goodIn_ca (goodIn_r _ [446, 150, 447, 448, 449, 2, 450, 165, 166, 167, 168, 169, 170, 14, 451, 452, 453, 23, 454, 62, 455, 456, 457, 458, 221, 189, 190, 191, 49, 1053, 1054, 1055, 1056, 1042, 1043, 1044, 1045, 1046, 1047, 1048, 1061, 1062] (by decide +kernel) (by decide +kernel)) (goodIn_sub (fun _ h => List.mem_append_right _ h) (by decide +kernel))
set_option maxRecDepth 20000 in
theorem gL_law_L_period : GoodIn wsL_law (va_wsS RL 100 yL_period wsL_period) := goodIn_app (goodIn_of _ (by decide +kernel)) ggL_law_L_period
set_option maxRecDepth 20000 in
theorem ggL_law_X8_period : GoodIn wsL_law wsX8_period := goodIn_r _ [462, 296, 297, 298, 5, 299, 300, 301, 302, 303, 304, 305, 306, 307, 308, 309, 310, 311, 440, 441, 442, 443, 402, 403, 404, 405, 79, 78, 406, 407, 77, 295, 315, 316, 317, 76, 318, 102, 319, 320, 321, 322, 323, 324, 325, 326, 327, 328, 329, 330, 85, 408, 409, 410, 411, 412, 48, 413, 414, 415, 416, 417, 418, 419, 420, 421, 422, 423, 332, 333, 334, 424, 425, 426, 427, 143, 144, 145, 463, 464, 465, 466, 1049, 1050, 1051, 1052, 1069, 1070, 1071, 1072, 1073, 1065, 1066, 1067, 1074] (by decide +kernel) (by decide +kernel)
set_option maxRecDepth 20000 in
theorem gL_law_X8_period : GoodIn wsL_law (wsV RL 103 RX8 yX8_period wsX8_period) := goodIn_app (goodIn_of _ (by decide +kernel)) ggL_law_X8_period
set_option maxRecDepth 20000 in
theorem ggL_law_L_tie : GoodIn wsL_law wsL_tie := goodIn_ca (goodIn_ca (goodIn_r _ [469, 150, 151, 470, 471, 472, 2, 473, 161, 162, 24, 474, 475, 476, 169, 170, 435, 189, 190, 23, 191, 62, 49, 477, 245, 246, 247, 277, 278, 279, 280, 28, 14, 281, 282, 283, 27, 284, 67, 68, 285, 185, 186, 187, 286, 59, 60, 61, 287, 288, 289, 290, 1042, 1043, 1044, 1045, 1046, 1047, 1048, 1061, 1062, 1053, 1054, 1055, 1056, 1063, 1064] (by decide +kernel) (by decide +kernel)) (goodIn_sub (fun _ h => List.mem_append_left _ (List.mem_append_left _ (List.mem_append_right _ h))) (by decide +kernel))) (goodIn_sub (fun _ h => List.mem_append_right _ h) (by decide +kernel))
set_option maxRecDepth 20000 in
theorem gL_law_L_tie : GoodIn wsL_law (va_wsS RL 104 yL_tie wsL_tie) := goodIn_app (goodIn_of _ (by decide +kernel)) ggL_law_L_tie
set_option maxRecDepth 20000 in
theorem ggL_law_X8_tie : GoodIn wsL_law wsX8_tie := goodIn_r _ [481, 80, 482, 483, 5, 484, 300, 301, 302, 303, 304, 305, 306, 307, 308, 309, 310, 311, 1049, 1050, 1051, 1052] (by decide +kernel) (by decide +kernel)
set_option maxRecDepth 20000 in
theorem gL_law_X8_tie : GoodIn wsL_law (wsV RL 106 RX8 yX8_tie wsX8_tie) := goodIn_app (goodIn_of _ (by decide +kernel)) ggL_law_X8_tie
set_option maxRecDepth 20000 in
theorem ggL_law_L_tied : GoodIn wsL_law wsL_tied := goodIn_ca (goodIn_r _ [487, 150, 488, 489, 490, 2, 491, 24, 474, 475, 476, 169, 170, 435, 189, 190, 23, 191, 62, 49, 1042, 1043, 1044, 1045, 1046, 1047, 1048, 1061, 1062] (by decide +kernel) (by decide +kernel)) (goodIn_sub (fun _ h => List.mem_append_right _ h) (by decide +kernel))
set_option maxRecDepth 20000 in
theorem gL_law_L_tied : GoodIn wsL_law (va_wsS RL 107 yL_tied wsL_tied) := goodIn_app (goodIn_of _ (by decide +kernel)) ggL_law_L_tied
set_option maxRecDepth 20000 in
theorem ggL_law_X8_tied : GoodIn wsL_law wsX8_tied := goodIn_r _ [495, 80, 482, 483, 5, 484, 300, 301, 302, 303, 304, 305, 306, 307, 308, 309, 310, 311, 1049, 1050, 1051, 1052] (by decide +kernel) (by decide +kernel)
set_option maxRecDepth 20000 in
theorem gL_law_X8_tied : GoodIn wsL_law (wsV RL 109 RX8 yX8_tied wsX8_tied) := goodIn_app (goodIn_of _ (by decide +kernel)) ggL_law_X8_tied
set_option maxRecDepth 20000 in
theorem ggL_law_L_twill : GoodIn wsL_law wsL_twill := goodIn_ca (goodIn_r _ [498, 151, 499, 500, 501, 2, 502, 161, 162, 30, 503, 185, 186, 23, 187, 62, 58, 59, 60, 61, 49, 504, 505, 506, 507, 24, 435, 189, 190, 191, 508, 272, 273, 274, 275, 276, 232, 233, 234, 221, 235, 277, 278, 279, 280, 28, 14, 281, 282, 283, 27, 284, 67, 68, 285, 286, 287, 288, 289, 290, 245, 246, 247, 1042, 1043, 1044, 1045, 1046, 1047, 1048, 1061, 1062, 1053, 1054, 1055, 1056, 1063, 1064] (by decide +kernel) (by decide +kernel)) (goodIn_sub (fun _ h => List.mem_append_left _ (List.mem_append_left _ (List.mem_append_right _ h))) (by decide +kernel))
set_option maxRecDepth 20000 in
theorem gL_law_L_twill : GoodIn wsL_law (va_wsS RL 110 yL_twill wsL_twill) := goodIn_app (goodIn_of _ (by decide +kernel)) ggL_law_L_twill

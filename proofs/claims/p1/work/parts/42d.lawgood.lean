/-! THE LAW's calls: words (printed rows) -/
set_option maxRecDepth 20000 in
theorem ggL_law_X8_twill : GoodIn wsL_law wsX8_twill := goodIn_r _ [512, 80, 300, 301, 5, 302, 303, 304, 305, 306, 307, 308, 309, 310, 311, 1049, 1050, 1051, 1052] (by decide +kernel) (by decide +kernel)
set_option maxRecDepth 20000 in
theorem gL_law_X8_twill : GoodIn wsL_law (wsV RL 112 RX8 yX8_twill wsX8_twill) := goodIn_app (goodIn_of _ (by decide +kernel)) ggL_law_X8_twill
set_option maxRecDepth 20000 in
theorem ggL_law_L_swap : GoodIn wsL_law wsL_swap := goodIn_ca (goodIn_r _ [515, 150, 516, 517, 518, 2, 519, 520, 521, 522, 169, 170, 523, 524, 525, 526, 30, 24, 503, 185, 186, 23, 187, 62, 435, 189, 190, 191, 49, 58, 59, 60, 61, 504, 505, 506, 507, 508, 272, 273, 274, 275, 276, 232, 233, 234, 221, 235, 277, 278, 279, 280, 28, 14, 281, 282, 283, 27, 284, 67, 68, 285, 286, 287, 288, 289, 290, 245, 246, 247, 1042, 1043, 1044, 1045, 1046, 1047, 1048, 1061, 1062, 1053, 1054, 1055, 1056, 1063, 1064] (by decide +kernel) (by decide +kernel)) (goodIn_sub (fun _ h => List.mem_append_right _ h) (by decide +kernel))
set_option maxRecDepth 20000 in
theorem gL_law_L_swap : GoodIn wsL_law (va_wsS RL 113 yL_swap wsL_swap) := goodIn_app (goodIn_of _ (by decide +kernel)) ggL_law_L_swap
set_option maxRecDepth 20000 in
theorem ggL_law_X8_swap : GoodIn wsL_law wsX8_swap := goodIn_r _ [530, 80, 482, 483, 5, 484, 300, 301, 302, 303, 304, 305, 306, 307, 308, 309, 310, 311, 531, 532, 533, 534, 48, 535, 536, 537, 1049, 1050, 1051, 1052] (by decide +kernel) (by decide +kernel)
set_option maxRecDepth 20000 in
theorem gL_law_X8_swap : GoodIn wsL_law (wsV RL 115 RX8 yX8_swap wsX8_swap) := goodIn_app (goodIn_of _ (by decide +kernel)) ggL_law_X8_swap
set_option maxRecDepth 20000 in
theorem ggL_law_L_cloth : GoodIn wsL_law wsL_cloth := goodIn_ca (goodIn_r _ [540, 151, 541, 542, 543, 2, 544, 161, 162, 28, 14, 545, 546, 547, 23, 548, 62, 221, 189, 190, 191, 49, 549, 550, 341, 551, 552, 553, 554, 555, 556, 557, 27, 558, 67, 68, 559, 45, 46, 47, 560, 561, 562, 563, 44, 564, 565, 566, 567, 568, 569, 570, 571, 572, 573, 574, 575, 576, 577, 578, 579, 1042, 1043, 1044, 1045, 1046, 1047, 1048, 1063, 1064, 1061, 1062, 1053, 1054, 1055, 1056] (by decide +kernel) (by decide +kernel)) (goodIn_sub (fun _ h => List.mem_append_left _ (List.mem_append_left _ (List.mem_append_right _ h))) (by decide +kernel))
set_option maxRecDepth 20000 in
theorem gL_law_L_cloth : GoodIn wsL_law (va_wsS RL 116 yL_cloth wsL_cloth) := goodIn_app (goodIn_of _ (by decide +kernel)) ggL_law_L_cloth
set_option maxRecDepth 20000 in
theorem ggL_law_X8_cloth__ : GoodIn wsL_law wsX8_cloth__ := goodIn_r _ [583, 300, 301, 5, 302, 303, 304, 305, 306, 307, 308, 309, 310, 311, 584, 585, 586, 587, 588, 589, 590, 591, 592, 593, 80, 594, 595, 596, 597, 598, 599, 600, 440, 441, 442, 443, 402, 403, 404, 405, 79, 78, 406, 407, 77, 295, 315, 316, 317, 76, 318, 102, 319, 320, 321, 322, 323, 324, 325, 326, 327, 328, 329, 330, 85, 408, 409, 410, 411, 412, 48, 413, 414, 415, 416, 417, 418, 419, 420, 421, 422, 423, 332, 333, 334, 424, 425, 426, 427, 143, 144, 145, 601, 602, 603, 604, 11, 12, 605, 606, 607, 608, 609, 610, 611, 612, 613, 614, 615, 616, 617, 618, 619, 620, 621, 622, 45, 46, 47, 623, 624, 625, 626, 627, 628, 629, 630, 631, 632, 633, 634, 635, 636, 637, 638, 550, 341, 551, 552, 553, 554, 639, 640, 641, 642, 643, 644, 645, 646, 1049, 1050, 1051, 1052, 1075, 1076, 1077, 1069, 1070, 1071, 1072, 1073, 1065, 1066, 1067, 1074] (by decide +kernel) (by decide +kernel)
set_option maxRecDepth 20000 in
theorem gL_law_X8_cloth__ : GoodIn wsL_law (wsV RL 118 RX8 yX8_cloth__ wsX8_cloth__) := goodIn_app (goodIn_of _ (by decide +kernel)) ggL_law_X8_cloth__
set_option maxRecDepth 20000 in
theorem ggL_law_L_field : GoodIn wsL_law wsL_field := goodIn_ca (goodIn_ca (goodIn_r _ [649, 150, 151, 650, 651, 652, 2, 653, 161, 162, 28, 654, 655, 656, 657, 169, 170, 658, 659, 660, 661, 662, 663, 664, 27, 665, 67, 287, 189, 190, 23, 191, 62, 49, 288, 289, 666, 667, 668, 669, 14, 670, 671, 672, 673, 221, 674, 675, 676, 677, 68, 678, 679, 680, 681, 1042, 1043, 1044, 1045, 1046, 1047, 1048, 1063, 1064, 1061, 1062, 1053, 1054, 1055, 1056] (by decide +kernel) (by decide +kernel)) (goodIn_sub (fun _ h => List.mem_append_left _ (List.mem_append_left _ (List.mem_append_right _ h))) (by decide +kernel))) (goodIn_sub (fun _ h => List.mem_append_right _ h) (by decide +kernel))
set_option maxRecDepth 20000 in
theorem gL_law_L_field : GoodIn wsL_law (va_wsS RL 119 yL_field wsL_field) := goodIn_app (goodIn_of _ (by decide +kernel)) ggL_law_L_field
set_option maxRecDepth 20000 in
theorem ggL_law_X8_field : GoodIn wsL_law wsX8_field := goodIn_r _ [685, 588, 589, 686, 590, 591, 592, 5, 593, 80, 594, 595, 596, 597, 598, 599, 600, 440, 441, 442, 443, 402, 403, 404, 405, 79, 78, 406, 407, 77, 295, 315, 316, 317, 76, 318, 102, 319, 320, 321, 322, 323, 324, 325, 326, 327, 328, 329, 330, 85, 408, 409, 410, 411, 412, 48, 413, 414, 415, 416, 417, 418, 419, 420, 421, 422, 423, 332, 333, 334, 424, 425, 426, 427, 143, 144, 145, 601, 602, 603, 604, 11, 12, 605, 606, 607, 608, 609, 300, 301, 302, 303, 304, 305, 306, 307, 308, 309, 310, 311, 687, 688, 689, 690, 691, 692, 693, 694, 695, 696, 697, 627, 628, 629, 630, 623, 624, 625, 626, 1075, 1076, 1077, 1049, 1050, 1051, 1052, 1069, 1070, 1071, 1072, 1073, 1065, 1066, 1067, 1074] (by decide +kernel) (by decide +kernel)
set_option maxRecDepth 20000 in
theorem gL_law_X8_field : GoodIn wsL_law (wsV RL 122 RX8 yX8_field wsX8_field) := goodIn_app (goodIn_of _ (by decide +kernel)) ggL_law_X8_field
set_option maxRecDepth 20000 in
theorem ggL_law_L_floats : GoodIn wsL_law wsL_floats := goodIn_ca (goodIn_r _ [700, 151, 701, 702, 703, 2, 704, 28, 705, 706, 707, 161, 162, 708, 709, 710, 27, 711, 67, 68, 712, 567, 568, 23, 569, 62, 221, 189, 190, 191, 49, 570, 571, 549, 550, 341, 551, 552, 553, 554, 1042, 1043, 1044, 1045, 1046, 1047, 1048, 1063, 1064, 1061, 1062] (by decide +kernel) (by decide +kernel)) (goodIn_sub (fun _ h => List.mem_append_left _ (List.mem_append_left _ (List.mem_append_right _ h))) (by decide +kernel))
set_option maxRecDepth 20000 in
theorem gL_law_L_floats : GoodIn wsL_law (va_wsS RL 123 yL_floats wsL_floats) := goodIn_app (goodIn_of _ (by decide +kernel)) ggL_law_L_floats
set_option maxRecDepth 20000 in
theorem ggL_law_X8_floats : GoodIn wsL_law wsX8_floats := goodIn_r _ [716, 717, 718, 5, 719, 300, 301, 302, 303, 304, 305, 306, 307, 308, 309, 310, 311, 720, 721, 722, 723, 590, 591, 592, 593, 80, 594, 595, 596, 597, 598, 599, 600, 440, 441, 442, 443, 402, 403, 404, 405, 79, 78, 406, 407, 77, 295, 315, 316, 317, 76, 318, 102, 319, 320, 321, 322, 323, 324, 325, 326, 327, 328, 329, 330, 85, 408, 409, 410, 411, 412, 48, 413, 414, 415, 416, 417, 418, 419, 420, 421, 422, 423, 332, 333, 334, 424, 425, 426, 427, 143, 144, 145, 601, 602, 603, 604, 11, 12, 605, 606, 607, 608, 609, 631, 632, 633, 634, 623, 624, 625, 626, 627, 628, 629, 630, 1049, 1050, 1051, 1052, 1075, 1076, 1077, 1069, 1070, 1071, 1072, 1073, 1065, 1066, 1067, 1074] (by decide +kernel) (by decide +kernel)
set_option maxRecDepth 20000 in
theorem gL_law_X8_floats : GoodIn wsL_law (wsV RL 125 RX8 yX8_floats wsX8_floats) := goodIn_app (goodIn_of _ (by decide +kernel)) ggL_law_X8_floats

/-! THE LAW's calls: words (printed rows) -/
set_option maxRecDepth 20000 in
theorem ggL_law_L_where : GoodIn wsL_law wsL_where := goodIn_ca (goodIn_r _ [726, 151, 727, 728, 729, 2, 730, 28, 705, 706, 707, 161, 162, 731, 732, 733, 23, 734, 62, 221, 189, 190, 191, 49, 570, 571, 435, 735, 736, 737, 738, 681, 288, 289, 1042, 1043, 1044, 1045, 1046, 1047, 1048, 1063, 1064, 1061, 1062] (by decide +kernel) (by decide +kernel)) (goodIn_sub (fun _ h => List.mem_append_left _ (List.mem_append_left _ (List.mem_append_right _ h))) (by decide +kernel))
set_option maxRecDepth 20000 in
theorem gL_law_L_where : GoodIn wsL_law (va_wsS RL 126 yL_where wsL_where) := goodIn_app (goodIn_of _ (by decide +kernel)) ggL_law_L_where
set_option maxRecDepth 20000 in
theorem ggL_law_X8_where : GoodIn wsL_law wsX8_where := goodIn_r _ [742, 717, 718, 5, 719, 300, 301, 302, 303, 304, 305, 306, 307, 308, 309, 310, 311, 590, 591, 592, 593, 80, 594, 595, 596, 597, 598, 599, 600, 440, 441, 442, 443, 402, 403, 404, 405, 79, 78, 406, 407, 77, 295, 315, 316, 317, 76, 318, 102, 319, 320, 321, 322, 323, 324, 325, 326, 327, 328, 329, 330, 85, 408, 409, 410, 411, 412, 48, 413, 414, 415, 416, 417, 418, 419, 420, 421, 422, 423, 332, 333, 334, 424, 425, 426, 427, 143, 144, 145, 601, 602, 603, 604, 11, 12, 605, 606, 607, 608, 609, 743, 744, 745, 746, 623, 624, 625, 626, 627, 628, 629, 630, 1049, 1050, 1051, 1052, 1075, 1076, 1077, 1069, 1070, 1071, 1072, 1073, 1065, 1066, 1067, 1074] (by decide +kernel) (by decide +kernel)
set_option maxRecDepth 20000 in
theorem gL_law_X8_where : GoodIn wsL_law (wsV RL 129 RX8 yX8_where wsX8_where) := goodIn_app (goodIn_of _ (by decide +kernel)) ggL_law_X8_where
set_option maxRecDepth 20000 in
theorem ggL_law_L_ups : GoodIn wsL_law wsL_ups := goodIn_ca (goodIn_r _ [749, 150, 750, 751, 752, 2, 753, 28, 654, 655, 656, 657, 169, 170, 435, 189, 190, 23, 191, 62, 49, 754, 550, 341, 551, 552, 553, 554, 658, 659, 660, 661, 1042, 1043, 1044, 1045, 1046, 1047, 1048, 1063, 1064, 1061, 1062] (by decide +kernel) (by decide +kernel)) (goodIn_sub (fun _ h => List.mem_append_right _ h) (by decide +kernel))
set_option maxRecDepth 20000 in
theorem gL_law_L_ups : GoodIn wsL_law (va_wsS RL 130 yL_ups wsL_ups) := goodIn_app (goodIn_of _ (by decide +kernel)) ggL_law_L_ups
set_option maxRecDepth 20000 in
theorem ggL_law_X8_ups : GoodIn wsL_law wsX8_ups := goodIn_r _ [758, 588, 589, 590, 591, 592, 5, 593, 80, 594, 595, 596, 597, 598, 599, 600, 440, 441, 442, 443, 402, 403, 404, 405, 79, 78, 406, 407, 77, 295, 315, 316, 317, 76, 318, 102, 319, 320, 321, 322, 323, 324, 325, 326, 327, 328, 329, 330, 85, 408, 409, 410, 411, 412, 48, 413, 414, 415, 416, 417, 418, 419, 420, 421, 422, 423, 332, 333, 334, 424, 425, 426, 427, 143, 144, 145, 601, 602, 603, 604, 11, 12, 605, 606, 607, 608, 609, 300, 301, 302, 303, 304, 305, 306, 307, 308, 309, 310, 311, 759, 615, 616, 617, 1075, 1076, 1077, 1049, 1050, 1051, 1052, 1069, 1070, 1071, 1072, 1073, 1065, 1066, 1067, 1074] (by decide +kernel) (by decide +kernel)
set_option maxRecDepth 20000 in
theorem gL_law_X8_ups : GoodIn wsL_law (wsV RL 132 RX8 yX8_ups wsX8_ups) := goodIn_app (goodIn_of _ (by decide +kernel)) ggL_law_X8_ups
set_option maxRecDepth 20000 in
theorem ggL_law_L_seen : GoodIn wsL_law wsL_seen := goodIn_ca (goodIn_r _ [762, 151, 763, 764, 765, 2, 766, 161, 162, 28, 666, 667, 668, 669, 14, 662, 663, 664, 27, 665, 67, 287, 189, 190, 23, 191, 62, 49, 288, 289, 670, 671, 672, 673, 221, 1042, 1043, 1044, 1045, 1046, 1047, 1048, 1063, 1064, 1061, 1062, 1053, 1054, 1055, 1056] (by decide +kernel) (by decide +kernel)) (goodIn_sub (fun _ h => List.mem_append_left _ (List.mem_append_left _ (List.mem_append_right _ h))) (by decide +kernel))
set_option maxRecDepth 20000 in
theorem gL_law_L_seen : GoodIn wsL_law (va_wsS RL 133 yL_seen wsL_seen) := goodIn_app (goodIn_of _ (by decide +kernel)) ggL_law_L_seen
set_option maxRecDepth 20000 in
theorem ggL_law_X8_seen : GoodIn wsL_law wsX8_seen := goodIn_r _ [770, 482, 483, 5, 484, 300, 301, 302, 303, 304, 305, 306, 307, 308, 309, 310, 311, 771, 772, 773, 774, 588, 589, 590, 591, 592, 593, 80, 594, 595, 596, 597, 598, 599, 600, 440, 441, 442, 443, 402, 403, 404, 405, 79, 78, 406, 407, 77, 295, 315, 316, 317, 76, 318, 102, 319, 320, 321, 322, 323, 324, 325, 326, 327, 328, 329, 330, 85, 408, 409, 410, 411, 412, 48, 413, 414, 415, 416, 417, 418, 419, 420, 421, 422, 423, 332, 333, 334, 424, 425, 426, 427, 143, 144, 145, 601, 602, 603, 604, 11, 12, 605, 606, 607, 608, 609, 687, 688, 689, 690, 686, 691, 692, 693, 1049, 1050, 1051, 1052, 1075, 1076, 1077, 1069, 1070, 1071, 1072, 1073, 1065, 1066, 1067, 1074] (by decide +kernel) (by decide +kernel)
set_option maxRecDepth 20000 in
theorem gL_law_X8_seen : GoodIn wsL_law (wsV RL 135 RX8 yX8_seen wsX8_seen) := goodIn_app (goodIn_of _ (by decide +kernel)) ggL_law_X8_seen
set_option maxRecDepth 20000 in
theorem ggL_law_X4_repeat : GoodIn wsL_law wsX4_repeat := goodIn_r _ [778, 28, 779, 780, 781, 27, 782, 67, 68, 451, 452, 453, 23, 454, 62, 455, 456, 457, 458, 221, 189, 190, 191, 49, 1042, 1043, 1044, 1045, 1046, 1047, 1048, 1063, 1064, 1061, 1062] (by decide +kernel) (by decide +kernel)
set_option maxRecDepth 20000 in
theorem gL_law_X4_repeat : GoodIn wsL_law (wsV RL 136 RX4 yX4_repeat wsX4_repeat) := goodIn_app (goodIn_of _ (by decide +kernel)) ggL_law_X4_repeat
set_option maxRecDepth 20000 in
theorem ggL_law_X8_repeat : GoodIn wsL_law wsX8_repeat := goodIn_r _ [786, 307, 590, 591, 592, 5, 593, 80, 594, 595, 596, 597, 598, 599, 600, 440, 441, 442, 443, 402, 403, 404, 405, 79, 78, 406, 407, 77, 295, 315, 316, 317, 76, 318, 102, 319, 320, 321, 322, 323, 324, 325, 326, 327, 328, 329, 330, 85, 408, 409, 410, 411, 412, 48, 413, 414, 415, 416, 417, 418, 419, 420, 421, 422, 423, 332, 333, 334, 424, 425, 426, 427, 143, 144, 145, 601, 602, 603, 604, 11, 12, 605, 606, 607, 608, 609, 787, 788, 789, 790, 791, 792, 793, 794, 643, 644, 645, 646, 1049, 1050, 1051, 1052, 1075, 1076, 1077, 1069, 1070, 1071, 1072, 1073, 1065, 1066, 1067, 1074] (by decide +kernel) (by decide +kernel)
set_option maxRecDepth 20000 in
theorem gL_law_X8_repeat : GoodIn wsL_law (wsV RL 140 RX8 yX8_repeat wsX8_repeat) := goodIn_app (goodIn_of _ (by decide +kernel)) ggL_law_X8_repeat
set_option maxRecDepth 20000 in
theorem ggL_law_X4_hangs : GoodIn wsL_law wsX4_hangs := goodIn_r _ [798, 28, 799, 800, 801, 27, 802, 803, 780, 781, 782, 67, 68, 804, 805, 806, 807, 808, 809, 810, 811, 812, 813, 814, 288, 2, 289, 287, 189, 190, 23, 191, 62, 49, 815, 816, 817, 818, 819, 820, 1042, 1043, 1044, 1045, 1046, 1047, 1048, 1063, 1064, 1061, 1062] (by decide +kernel) (by decide +kernel)
set_option maxRecDepth 20000 in
theorem gL_law_X4_hangs : GoodIn wsL_law (wsV RL 141 RX4 yX4_hangs wsX4_hangs) := goodIn_app (goodIn_of _ (by decide +kernel)) ggL_law_X4_hangs

/-! THE LAW's LIST holds the words of the model's methods that come to reading -/
set_option maxRecDepth 20000 in
theorem gLB_0 : GoodIn wsL_law wsB_r0 := goodIn_r _ [405, 85, 79, 78, 406, 407, 77, 295, 315, 316, 317, 76, 318, 102, 319, 320, 321, 322, 323, 324, 325, 326, 327, 328] (by decide +kernel) (by decide +kernel)
set_option maxRecDepth 20000 in
theorem gLB_1 : GoodIn wsL_law wsB_r1 := goodIn_r _ [329, 330, 443, 333, 334, 424, 425, 426, 427, 143, 144, 145, 408, 409, 410, 411, 412, 48, 413, 414, 415, 416, 417, 418] (by decide +kernel) (by decide +kernel)
set_option maxRecDepth 20000 in
theorem gLB_2 : GoodIn wsL_law wsB_r2 := goodIn_r _ [419, 420, 421, 422, 423, 332, 402, 403, 404, 5, 597, 607, 608, 609, 601, 602, 603, 604, 11, 12, 605, 606, 598, 599] (by decide +kernel) (by decide +kernel)
set_option maxRecDepth 20000 in
theorem gLB_3 : GoodIn wsL_law wsB_r3 := goodIn_r _ [600, 440, 441, 442, 593, 80, 594, 595, 596, 399, 331, 400, 401, 587, 551, 552, 553, 554, 639, 640, 641, 642, 643, 644] (by decide +kernel) (by decide +kernel)
set_option maxRecDepth 20000 in
theorem gLB_4 : GoodIn wsL_law wsB_r4 := goodIn_r _ [645, 646, 620, 621, 622, 45, 46, 47, 623, 624, 625, 626, 627, 628, 629, 630, 631, 632, 633, 634, 635, 636, 637, 638] (by decide +kernel) (by decide +kernel)
set_option maxRecDepth 20000 in
theorem gLB_5 : GoodIn wsL_law wsB_r5 := goodIn_r _ [550, 341, 610, 611, 612, 613, 614, 615, 616, 617, 618, 619, 588, 589, 590, 591, 592, 723, 774, 687, 688, 689, 690, 686] (by decide +kernel) (by decide +kernel)
set_option maxRecDepth 20000 in
theorem gLB_6 : GoodIn wsL_law wsB_r6 := goodIn_r _ [691, 692, 693, 892, 893, 894, 895, 896, 897, 898, 395, 296, 297, 298, 299, 300, 301, 302, 303, 304, 305, 306, 307, 308] (by decide +kernel) (by decide +kernel)
set_option maxRecDepth 20000 in
theorem gLB_7 : GoodIn wsL_law wsB_r7 := goodIn_r _ [309, 310, 311, 396, 397, 398, 439, 462, 463, 464, 465, 466, 583, 584, 585, 586, 685, 694, 695, 696, 697, 716, 717, 718] (by decide +kernel) (by decide +kernel)
set_option maxRecDepth 20000 in
theorem gLB_8 : GoodIn wsL_law wsB_r8 := goodIn_r _ [719, 720, 721, 722, 742, 743, 744, 745, 746, 758, 759, 770, 482, 483, 484, 771, 772, 773, 786, 787, 788, 789, 790, 791] (by decide +kernel) (by decide +kernel)
set_option maxRecDepth 20000 in
theorem gLB_9 : GoodIn wsL_law wsB_r9 := goodIn_r _ [792, 793, 794, 824, 131, 132, 133, 134, 135, 136, 137, 138, 139, 140, 141, 142, 838, 839, 840, 841, 842, 843, 110, 111] (by decide +kernel) (by decide +kernel)
set_option maxRecDepth 20000 in
theorem gLB_10 : GoodIn wsL_law wsB_r10 := goodIn_r _ [112, 113, 114, 115, 116, 117, 118, 119, 120, 121, 122, 123, 124, 125, 126, 127, 128, 129, 130, 345, 346, 347, 348, 349] (by decide +kernel) (by decide +kernel)
set_option maxRecDepth 20000 in
theorem gLB_11 : GoodIn wsL_law wsB_r11 := goodIn_r _ [350, 351, 352, 353, 354, 355, 837, 97, 98, 99, 100, 101, 103, 104, 105, 106, 107, 108, 109, 832, 833, 75, 834, 835] (by decide +kernel) (by decide +kernel)
set_option maxRecDepth 20000 in
theorem gLB_12 : GoodIn wsL_law wsB_r12 := goodIn_r _ [82, 83, 84, 86, 87, 88, 89, 90, 91, 92, 93, 94, 95, 836, 340, 342, 343, 344, 825, 826, 827, 828, 829, 830] (by decide +kernel) (by decide +kernel)
set_option maxRecDepth 20000 in
theorem gLB_13 : GoodIn wsL_law wsB_r13 := goodIn_r _ [831, 853, 854, 855, 856, 857, 865, 866, 867, 868, 869, 888, 889, 890, 891, 909, 1009, 531, 532, 533, 534, 535, 536, 537] (by decide +kernel) (by decide +kernel)
set_option maxRecDepth 20000 in
theorem gLB_14 : GoodIn wsL_law wsB_r14 := goodIn_r _ [1036, 1039, 1040, 1041, 1038, 1037, 934, 992, 993, 994, 995, 996, 997, 998, 975, 976, 373, 374, 375, 977, 978, 979, 980, 981] (by decide +kernel) (by decide +kernel)
set_option maxRecDepth 20000 in
theorem gLB_15 : GoodIn wsL_law wsB_r15 := goodIn_r _ [982, 983, 984, 985, 986, 987, 988, 989, 990, 991, 970, 377, 378, 379, 380, 381, 382, 383, 384, 971, 972, 973, 974, 956] (by decide +kernel) (by decide +kernel)
set_option maxRecDepth 20000 in
theorem gLB_16 : GoodIn wsL_law wsB_r16 := goodIn_r _ [957, 958, 959, 960, 961, 962, 963, 964, 965, 966, 967, 968, 969, 951, 952, 953, 954, 955, 950, 944, 945, 946, 947, 948] (by decide +kernel) (by decide +kernel)
set_option maxRecDepth 20000 in
theorem gLB_17 : GoodIn wsL_law wsB_r17 := goodIn_r _ [949, 935, 936, 937, 938, 939, 940, 941, 942, 943, 932, 933] (by decide +kernel) (by decide +kernel)
theorem gLB_Jx4a65c : GoodIn wsL_law wsJx4a65c0 := goodIn_sub inlJx4a65c (by decide +kernel)
theorem gLB_X7 : GoodIn wsL_law wsX70 := goodIn_sub inlX7 (by decide +kernel)
theorem gLB_X8 : GoodIn wsL_law wsX80 := goodIn_sub inlX8 (by decide +kernel)
theorem gLB_X6 : GoodIn wsL_law wsX60 := goodIn_sub inlX6 (by decide +kernel)
theorem gLB_X5 : GoodIn wsL_law wsX50 := goodIn_sub inlX5 (by decide +kernel)
theorem gLB_J6 : GoodIn wsL_law wsJ60 := goodIn_sub inlJ6 (by decide +kernel)
theorem gLB : GoodIn wsL_law wsB := (goodIn_app (goodIn_app (goodIn_app (goodIn_app (goodIn_app (goodIn_app (goodIn_app gLB_0 (goodIn_app gLB_1 (goodIn_app gLB_2 (goodIn_app gLB_3 (goodIn_app gLB_4 (goodIn_app gLB_5 (goodIn_app gLB_6 (goodIn_app gLB_7 (goodIn_app gLB_8 (goodIn_app gLB_9 (goodIn_app gLB_10 (goodIn_app gLB_11 (goodIn_app gLB_12 (goodIn_app gLB_13 (goodIn_app gLB_14 (goodIn_app gLB_15 (goodIn_app gLB_16 gLB_17))))))))))))))))) gLB_Jx4a65c) gLB_X7) gLB_X8) gLB_X6) gLB_X5) gLB_J6)
theorem gL_lawb_X8_ofProgram : GoodIn wsL_law (wsV RL 96 RX8 yX8_ofProgram wbX8_ofProgram) := goodIn_app (goodIn_of _ (by decide +kernel)) (goodIn_app (a := [Cond.code yX8_ofProgram cX8_ofProgram 3 (some .int)]) (goodIn_of _ (by decide +kernel)) gLB)
theorem gL_lawb_X8_number : GoodIn wsL_law (wsV RL 99 RX8 yX8_number wbX8_number) := goodIn_app (goodIn_of _ (by decide +kernel)) (goodIn_app (a := [Cond.code yX8_number cX8_number 3 (some .int)]) (goodIn_of _ (by decide +kernel)) gLB)
theorem gL_lawb_X8_period : GoodIn wsL_law (wsV RL 103 RX8 yX8_period wbX8_period) := goodIn_app (goodIn_of _ (by decide +kernel)) (goodIn_app (a := [Cond.code yX8_period cX8_period 2 (some .int)]) (goodIn_of _ (by decide +kernel)) gLB)
theorem gL_lawb_X8_cloth__ : GoodIn wsL_law (wsV RL 118 RX8 yX8_cloth__ wbX8_cloth__) := goodIn_app (goodIn_of _ (by decide +kernel)) (goodIn_app (a := [Cond.code yX8_cloth__ cX8_cloth__ 2 (some .int)]) (goodIn_of _ (by decide +kernel)) gLB)
theorem gL_lawb_X8_field : GoodIn wsL_law (wsV RL 122 RX8 yX8_field wbX8_field) := goodIn_app (goodIn_of _ (by decide +kernel)) (goodIn_app (a := [Cond.code yX8_field cX8_field 5 (some .int)]) (goodIn_of _ (by decide +kernel)) gLB)
theorem gL_lawb_X8_floats : GoodIn wsL_law (wsV RL 125 RX8 yX8_floats wbX8_floats) := goodIn_app (goodIn_of _ (by decide +kernel)) (goodIn_app (a := [Cond.code yX8_floats cX8_floats 2 (some .int)]) (goodIn_of _ (by decide +kernel)) gLB)
theorem gL_lawb_X8_where : GoodIn wsL_law (wsV RL 129 RX8 yX8_where wbX8_where) := goodIn_app (goodIn_of _ (by decide +kernel)) (goodIn_app (a := [Cond.code yX8_where cX8_where 3 (some .int)]) (goodIn_of _ (by decide +kernel)) gLB)
theorem gL_lawb_X8_ups : GoodIn wsL_law (wsV RL 132 RX8 yX8_ups wbX8_ups) := goodIn_app (goodIn_of _ (by decide +kernel)) (goodIn_app (a := [Cond.code yX8_ups cX8_ups 4 (some .int)]) (goodIn_of _ (by decide +kernel)) gLB)
theorem gL_lawb_X8_seen : GoodIn wsL_law (wsV RL 135 RX8 yX8_seen wbX8_seen) := goodIn_app (goodIn_of _ (by decide +kernel)) (goodIn_app (a := [Cond.code yX8_seen cX8_seen 2 (some .int)]) (goodIn_of _ (by decide +kernel)) gLB)
theorem gL_lawb_X8_repeat : GoodIn wsL_law (wsV RL 140 RX8 yX8_repeat wbX8_repeat) := goodIn_app (goodIn_of _ (by decide +kernel)) (goodIn_app (a := [Cond.code yX8_repeat cX8_repeat 2 (some .int)]) (goodIn_of _ (by decide +kernel)) gLB)
theorem gL_lawb_X8_hangs : GoodIn wsL_law (wsV RL 145 RX8 yX8_hangs wbX8_hangs) := goodIn_app (goodIn_of _ (by decide +kernel)) (goodIn_app (a := [Cond.code yX8_hangs cX8_hangs 1 (some .boolean)]) (goodIn_of _ (by decide +kernel)) gLB)
theorem gL_lawb_X8_reach : GoodIn wsL_law (wsV RL 149 RX8 yX8_reach wbX8_reach) := goodIn_app (goodIn_of _ (by decide +kernel)) (goodIn_app (a := [Cond.code yX8_reach cX8_reach 2 (some .int)]) (goodIn_of _ (by decide +kernel)) gLB)
theorem gL_lawb_X8_meanFloat : GoodIn wsL_law (wsV RL 154 RX8 yX8_meanFloat wbX8_meanFloat) := goodIn_app (goodIn_of _ (by decide +kernel)) (goodIn_app (a := [Cond.code yX8_meanFloat cX8_meanFloat 2 (some .double)]) (goodIn_of _ (by decide +kernel)) gLB)
theorem gL_lawb_X8_floatWith : GoodIn wsL_law (wsV RL 157 RX8 yX8_floatWith wbX8_floatWith) := goodIn_app (goodIn_of _ (by decide +kernel)) (goodIn_app (a := [Cond.code yX8_floatWith cX8_floatWith 3 (some .int)]) (goodIn_of _ (by decide +kernel)) gLB)
theorem gL_lawb_X8_hangsWith : GoodIn wsL_law (wsV RL 160 RX8 yX8_hangsWith wbX8_hangsWith) := goodIn_app (goodIn_of _ (by decide +kernel)) (goodIn_app (a := [Cond.code yX8_hangsWith cX8_hangsWith 3 (some .boolean)]) (goodIn_of _ (by decide +kernel)) gLB)
theorem gL_lawb_X8_changedBy : GoodIn wsL_law (wsV RL 166 RX8 yX8_changedBy wbX8_changedBy) := goodIn_app (goodIn_of _ (by decide +kernel)) (goodIn_app (a := [Cond.code yX8_changedBy cX8_changedBy 8 (some .int)]) (goodIn_of _ (by decide +kernel)) gLB)
theorem gL_lawb_X8_digest : GoodIn wsL_law (wsV RL 171 RX8 yX8_digest wbX8_digest) := goodIn_app (goodIn_of _ (by decide +kernel)) (goodIn_app (a := [Cond.code yX8_digest cX8_digest 9 (some .long)]) (goodIn_of _ (by decide +kernel)) gLB)
theorem gL_lawb_X8_lengthWith : GoodIn wsL_law (wsV RL 163 RX8 yX8_lengthWith wbX8_lengthWith) := goodIn_app (goodIn_of _ (by decide +kernel)) (goodIn_app ggL_law_X8_lengthWith gLB)

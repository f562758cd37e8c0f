set_option maxRecDepth 20000 in
theorem ggL_law_L_turn : GoodIn wsL_law wsL_turn := goodIn_ca (goodIn_ca (goodIn_r _ [206, 99, 47, 207, 208, 209, 2, 210, 60, 61, 24, 211, 212, 213, 214, 108, 109, 198, 79, 80, 81, 152, 153, 154, 155, 55, 62, 63, 64, 215, 216, 217, 218, 25, 26, 65, 66, 67, 219, 220, 221, 222, 17, 16, 681, 682, 683, 684, 685, 686, 687, 688, 689, 690, 691, 692, 693, 694, 695, 696, 697, 698] (by decide +kernel) (by decide +kernel)) (goodIn_sub (fun _ h => List.mem_append_left _ (List.mem_append_right _ h)) (by decide +kernel))) (goodIn_sub (fun _ h => List.mem_append_right _ h) (by decide +kernel))
set_option maxRecDepth 20000 in
theorem gL_law_L_turn : GoodIn wsL_law (va_wsS RL 127 yL_turn wsL_turn) := goodIn_app (goodIn_of _ (by decide +kernel)) ggL_law_L_turn
set_option maxRecDepth 20000 in
theorem ggL_law_X1_turn : GoodIn wsL_law wsX1_turn := goodIn_r _ [226, 86, 39, 32, 34, 33, 227, 228, 229, 5, 230, 203, 136, 137, 138, 88, 89, 90, 91, 231, 232, 233, 234, 41, 40, 699, 700, 701, 702, 703, 704, 705, 706, 707, 708, 709, 710, 711] (by decide +kernel) (by decide +kernel)
set_option maxRecDepth 20000 in
theorem gL_law_X1_turn : GoodIn wsL_law (wsV RL 130 RX1 yX1_turn wsX1_turn) := goodIn_app (goodIn_of _ (by decide +kernel)) ggL_law_X1_turn
set_option maxRecDepth 20000 in
theorem ggL_law_L_goBack : GoodIn wsL_law wsL_goBack := goodIn_ca (goodIn_ca (goodIn_r _ [237, 99, 47, 238, 239, 240, 2, 241, 60, 61, 25, 24, 211, 212, 213, 214, 108, 109, 198, 79, 80, 81, 242, 243, 244, 245, 26, 65, 66, 67, 681, 682, 683, 684, 685, 686, 687, 688, 689, 690, 691, 692, 693, 694, 695, 696, 697, 698] (by decide +kernel) (by decide +kernel)) (goodIn_sub (fun _ h => List.mem_append_left _ (List.mem_append_right _ h)) (by decide +kernel))) (goodIn_sub (fun _ h => List.mem_append_right _ h) (by decide +kernel))
set_option maxRecDepth 20000 in
theorem gL_law_L_goBack : GoodIn wsL_law (va_wsS RL 131 yL_goBack wsL_goBack) := goodIn_app (goodIn_of _ (by decide +kernel)) ggL_law_L_goBack
set_option maxRecDepth 20000 in
theorem ggL_law_X1_goBack : GoodIn wsL_law wsX1_goBack := goodIn_r _ [249, 86, 40, 39, 41, 227, 228, 229, 5, 230, 203, 136, 137, 138, 88, 89, 90, 91, 699, 700, 701, 702, 703, 704, 705, 706, 707, 708, 709, 710, 711] (by decide +kernel) (by decide +kernel)
set_option maxRecDepth 20000 in
theorem gL_law_X1_goBack : GoodIn wsL_law (wsV RL 133 RX1 yX1_goBack wsX1_goBack) := goodIn_app (goodIn_of _ (by decide +kernel)) ggL_law_X1_goBack
set_option maxRecDepth 20000 in
theorem ggL_law_L_follow : GoodIn wsL_law wsL_follow := goodIn_ca (goodIn_r _ [252, 99, 253, 254, 255, 2, 256, 24, 211, 212, 213, 214, 108, 109, 198, 79, 80, 81, 152, 153, 154, 155, 55, 62, 63, 64, 257, 258, 259, 260, 261, 262, 263, 264, 20, 21, 124, 125, 126, 127, 18, 219, 220, 221, 222, 17, 16, 215, 216, 217, 218, 25, 26, 65, 66, 67, 681, 682, 683, 684, 685, 686, 687, 688, 689, 690, 691, 692, 693, 694, 695, 696, 697, 698] (by decide +kernel) (by decide +kernel)) (goodIn_sub (fun _ h => List.mem_append_right _ h) (by decide +kernel))
set_option maxRecDepth 20000 in
theorem gL_law_L_follow : GoodIn wsL_law (va_wsS RL 134 yL_follow wsL_follow) := goodIn_app (goodIn_of _ (by decide +kernel)) ggL_law_L_follow
set_option maxRecDepth 20000 in
theorem ggL_law_X1_follow : GoodIn wsL_law wsX1_follow := goodIn_r _ [268, 86, 40, 32, 39, 227, 228, 229, 5, 230, 203, 136, 137, 138, 88, 89, 90, 91, 269, 270, 271, 272, 87, 35, 37, 33, 34, 273, 125, 126, 127, 38, 274, 275, 276, 277, 278, 279, 280, 281, 282, 283, 284, 285, 231, 232, 233, 234, 41, 699, 700, 701, 702, 703, 704, 705, 706, 707, 708, 709, 710, 711] (by decide +kernel) (by decide +kernel)
set_option maxRecDepth 20000 in
theorem gL_law_X1_follow : GoodIn wsL_law (wsV RL 136 RX1 yX1_follow wsX1_follow) := goodIn_app (goodIn_of _ (by decide +kernel)) ggL_law_X1_follow
set_option maxRecDepth 20000 in
theorem ggL_law_X0_places : GoodIn wsL_law wsX0_places := goodIn_r _ [289, 54, 681, 682, 683, 684, 685, 686, 687, 688, 689, 690, 691, 692, 693, 694, 695, 696, 697, 698] (by decide +kernel) (by decide +kernel)
set_option maxRecDepth 20000 in
theorem gL_law_X0_places : GoodIn wsL_law (wsV RL 137 RX0 yX0_places wsX0_places) := goodIn_app (goodIn_of _ (by decide +kernel)) ggL_law_X0_places
set_option maxRecDepth 20000 in
theorem ggL_law_X1_places : GoodIn wsL_law wsX1_places := goodIn_r _ [293, 87, 294, 295, 296, 5, 297, 86, 699, 700, 701, 702, 703, 704, 705, 706, 707, 708, 709, 710, 711] (by decide +kernel) (by decide +kernel)
set_option maxRecDepth 20000 in
theorem gL_law_X1_places : GoodIn wsL_law (wsV RL 140 RX1 yX1_places wsX1_places) := goodIn_app (goodIn_of _ (by decide +kernel)) ggL_law_X1_places
set_option maxRecDepth 20000 in
theorem ggL_law_X0_exams : GoodIn wsL_law wsX0_exams := goodIn_r _ [301, 55, 302, 303, 304, 305, 306, 307, 308, 681, 682, 683, 684, 685, 686, 687, 688, 689, 690, 691, 692, 693, 694, 695, 696, 697, 698] (by decide +kernel) (by decide +kernel)
set_option maxRecDepth 20000 in
theorem gL_law_X0_exams : GoodIn wsL_law (wsV RL 141 RX0 yX0_exams wsX0_exams) := goodIn_app (goodIn_of _ (by decide +kernel)) ggL_law_X0_exams
set_option maxRecDepth 20000 in
theorem ggL_law_X1_exams : GoodIn wsL_law wsX1_exams := goodIn_r _ [312, 313, 314, 315, 5, 316, 87, 32, 294, 295, 296, 297, 86, 699, 700, 701, 702, 703, 704, 705, 706, 707, 708, 709, 710, 711] (by decide +kernel) (by decide +kernel)
set_option maxRecDepth 20000 in
theorem gL_law_X1_exams : GoodIn wsL_law (wsV RL 144 RX1 yX1_exams wsX1_exams) := goodIn_app (goodIn_of _ (by decide +kernel)) ggL_law_X1_exams
set_option maxRecDepth 20000 in
theorem ggL_law_X0_graded : GoodIn wsL_law wsX0_graded := goodIn_r _ [320, 146, 681, 682, 683, 684, 685, 686, 687, 688, 689, 690, 691, 692, 693, 694, 695, 696, 697, 698] (by decide +kernel) (by decide +kernel)
set_option maxRecDepth 20000 in
theorem gL_law_X0_graded : GoodIn wsL_law (wsV RL 145 RX0 yX0_graded wsX0_graded) := goodIn_app (goodIn_of _ (by decide +kernel)) ggL_law_X0_graded
set_option maxRecDepth 20000 in
theorem ggL_law_X1_graded : GoodIn wsL_law wsX1_graded := goodIn_r _ [324, 168, 169, 170, 5, 171, 87, 32, 35, 294, 295, 296, 297, 86, 699, 700, 701, 702, 703, 704, 705, 706, 707, 708, 709, 710, 711] (by decide +kernel) (by decide +kernel)
set_option maxRecDepth 20000 in
theorem gL_law_X1_graded : GoodIn wsL_law (wsV RL 148 RX1 yX1_graded wsX1_graded) := goodIn_app (goodIn_of _ (by decide +kernel)) ggL_law_X1_graded
set_option maxRecDepth 20000 in
theorem ggL_law_X0_students : GoodIn wsL_law wsX0_students := goodIn_r _ [328, 198, 681, 682, 683, 684, 685, 686, 687, 688, 689, 690, 691, 692, 693, 694, 695, 696, 697, 698] (by decide +kernel) (by decide +kernel)
set_option maxRecDepth 20000 in
theorem gL_law_X0_students : GoodIn wsL_law (wsV RL 149 RX0 yX0_students wsX0_students) := goodIn_app (goodIn_of _ (by decide +kernel)) ggL_law_X0_students

set_option maxRecDepth 20000 in
theorem ggL_law_X1_examsFrom : GoodIn wsL_law wsX1_examsFrom := goodIn_r _ [496, 86, 132, 133, 134, 5, 135, 87, 136, 137, 138, 497, 498, 499, 500, 32, 482, 483, 484, 485, 36, 88, 89, 90, 91, 699, 700, 701, 702, 703, 704, 705, 706, 707, 708, 709, 710, 711] (by decide +kernel) (by decide +kernel)
set_option maxRecDepth 20000 in
theorem gL_law_X1_examsFrom : GoodIn wsL_law (wsV RL 192 RX1 yX1_examsFrom wsX1_examsFrom) := goodIn_app (goodIn_of _ (by decide +kernel)) ggL_law_X1_examsFrom
set_option maxRecDepth 20000 in
theorem ggL_law_L_risk : GoodIn wsL_law wsL_risk := goodIn_ca (goodIn_r _ [503, 99, 504, 505, 506, 2, 507, 179, 180, 181, 182, 108, 109, 104, 105, 106, 107, 54, 152, 153, 154, 155, 55, 62, 63, 64, 261, 262, 263, 264, 20, 21, 124, 125, 126, 127, 18, 219, 220, 221, 222, 17, 16, 79, 80, 81, 681, 682, 683, 684, 685, 686, 687, 688, 689, 690, 691, 692, 693, 694, 695, 696, 697, 698] (by decide +kernel) (by decide +kernel)) (goodIn_sub (fun _ h => List.mem_append_right _ h) (by decide +kernel))
set_option maxRecDepth 20000 in
theorem gL_law_L_risk : GoodIn wsL_law (va_wsS RL 193 yL_risk wsL_risk) := goodIn_app (goodIn_of _ (by decide +kernel)) ggL_law_L_risk
set_option maxRecDepth 20000 in
theorem ggL_law_X1_risk : GoodIn wsL_law wsX1_risk := goodIn_r _ [511, 86, 269, 270, 271, 5, 272, 87, 32, 35, 37, 33, 34, 273, 125, 126, 127, 38, 187, 188, 189, 190, 132, 133, 134, 135, 136, 137, 138, 282, 283, 284, 285, 88, 89, 90, 91, 699, 700, 701, 702, 703, 704, 705, 706, 707, 708, 709, 710, 711] (by decide +kernel) (by decide +kernel)
set_option maxRecDepth 20000 in
theorem gL_law_X1_risk : GoodIn wsL_law (wsV RL 195 RX1 yX1_risk wsX1_risk) := goodIn_app (goodIn_of _ (by decide +kernel)) ggL_law_X1_risk
set_option maxRecDepth 20000 in
theorem ggL_law_L_planTurnsRight : GoodIn wsL_law wsL_planTurnsRight := goodIn_ca (goodIn_r _ [514, 99, 515, 516, 517, 2, 518, 179, 180, 181, 182, 108, 109, 104, 105, 106, 107, 54, 152, 153, 154, 155, 55, 62, 63, 64, 257, 258, 259, 260, 261, 262, 263, 264, 20, 21, 124, 125, 126, 127, 18, 219, 220, 221, 222, 17, 16, 79, 80, 81, 681, 682, 683, 684, 685, 686, 687, 688, 689, 690, 691, 692, 693, 694, 695, 696, 697, 698] (by decide +kernel) (by decide +kernel)) (goodIn_sub (fun _ h => List.mem_append_right _ h) (by decide +kernel))
set_option maxRecDepth 20000 in
theorem gL_law_L_planTurnsRight : GoodIn wsL_law (va_wsS RL 196 yL_planTurnsRight wsL_planTurnsRight) := goodIn_app (goodIn_of _ (by decide +kernel)) ggL_law_L_planTurnsRight
set_option maxRecDepth 20000 in
theorem ggL_law_X1_planTurnsRight : GoodIn wsL_law wsX1_planTurnsRight := goodIn_r _ [522, 86, 269, 270, 271, 5, 272, 87, 32, 35, 37, 33, 34, 273, 125, 126, 127, 38, 187, 188, 189, 190, 132, 133, 134, 135, 136, 137, 138, 278, 279, 280, 281, 282, 283, 284, 285, 356, 357, 358, 359, 699, 700, 701, 702, 703, 704, 705, 706, 707, 708, 709, 710, 711] (by decide +kernel) (by decide +kernel)
set_option maxRecDepth 20000 in
theorem gL_law_X1_planTurnsRight : GoodIn wsL_law (wsV RL 198 RX1 yX1_planTurnsRight wsX1_planTurnsRight) := goodIn_app (goodIn_of _ (by decide +kernel)) ggL_law_X1_planTurnsRight
set_option maxRecDepth 20000 in
theorem ggL_law_L_planLeadsTo : GoodIn wsL_law wsL_planLeadsTo := goodIn_ca (goodIn_r _ [525, 99, 526, 527, 528, 2, 529, 104, 105, 106, 107, 108, 109, 54, 152, 153, 154, 155, 55, 62, 63, 64, 257, 258, 259, 260, 261, 262, 263, 264, 20, 21, 124, 125, 126, 127, 18, 219, 220, 221, 222, 17, 16, 79, 80, 81, 681, 682, 683, 684, 685, 686, 687, 688, 689, 690, 691, 692, 693, 694, 695, 696, 697, 698] (by decide +kernel) (by decide +kernel)) (goodIn_sub (fun _ h => List.mem_append_right _ h) (by decide +kernel))
set_option maxRecDepth 20000 in
theorem gL_law_L_planLeadsTo : GoodIn wsL_law (va_wsS RL 199 yL_planLeadsTo wsL_planLeadsTo) := goodIn_app (goodIn_of _ (by decide +kernel)) ggL_law_L_planLeadsTo
set_option maxRecDepth 20000 in
theorem ggL_law_X1_planLeadsTo : GoodIn wsL_law wsX1_planLeadsTo := goodIn_r _ [533, 86, 269, 270, 271, 5, 272, 87, 32, 35, 37, 33, 34, 273, 125, 126, 127, 38, 132, 133, 134, 135, 136, 137, 138, 534, 535, 536, 537, 274, 275, 276, 277, 278, 279, 280, 281, 282, 283, 284, 285, 88, 89, 90, 91, 699, 700, 701, 702, 703, 704, 705, 706, 707, 708, 709, 710, 711] (by decide +kernel) (by decide +kernel)
set_option maxRecDepth 20000 in
theorem gL_law_X1_planLeadsTo : GoodIn wsL_law (wsV RL 201 RX1 yX1_planLeadsTo wsX1_planLeadsTo) := goodIn_app (goodIn_of _ (by decide +kernel)) ggL_law_X1_planLeadsTo
set_option maxRecDepth 20000 in
theorem ggL_law_X0_riskiestFork : GoodIn wsL_law wsX0_riskiestFork := goodIn_r _ [541, 54, 152, 153, 154, 2, 155, 55, 62, 63, 64, 542, 543, 544, 545, 546, 547, 126, 548, 261, 262, 263, 264, 20, 21, 124, 125, 127, 18, 219, 220, 221, 222, 17, 16, 79, 80, 81, 681, 682, 683, 684, 685, 686, 687, 688, 689, 690, 691, 692, 693, 694, 695, 696, 697, 698] (by decide +kernel) (by decide +kernel)
set_option maxRecDepth 20000 in
theorem gL_law_X0_riskiestFork : GoodIn wsL_law (wsV RL 202 RX0 yX0_riskiestFork wsX0_riskiestFork) := goodIn_app (goodIn_of _ (by decide +kernel)) ggL_law_X0_riskiestFork
set_option maxRecDepth 20000 in
theorem ggL_law_X1_riskiestFork : GoodIn wsL_law wsX1_riskiestFork := goodIn_r _ [552, 269, 270, 271, 5, 272, 87, 32, 35, 37, 33, 34, 273, 125, 126, 127, 38, 553, 554, 555, 556, 557, 547, 548, 282, 283, 284, 285, 294, 295, 296, 297, 86, 699, 700, 701, 702, 703, 704, 705, 706, 707, 708, 709, 710, 711] (by decide +kernel) (by decide +kernel)
set_option maxRecDepth 20000 in
theorem gL_law_X1_riskiestFork : GoodIn wsL_law (wsV RL 205 RX1 yX1_riskiestFork wsX1_riskiestFork) := goodIn_app (goodIn_of _ (by decide +kernel)) ggL_law_X1_riskiestFork
set_option maxRecDepth 20000 in
theorem ggL_law_L_hindsight : GoodIn wsL_law wsL_hindsight := goodIn_ca (goodIn_r _ [560, 99, 561, 562, 563, 2, 564, 22, 179, 180, 181, 182, 108, 109, 104, 105, 106, 107, 54, 152, 153, 154, 155, 55, 62, 63, 64, 79, 80, 81, 681, 682, 683, 684, 685, 686, 687, 688, 689, 690, 691, 692, 693, 694, 695, 696, 697, 698] (by decide +kernel) (by decide +kernel)) (goodIn_sub (fun _ h => List.mem_append_right _ h) (by decide +kernel))
set_option maxRecDepth 20000 in
theorem gL_law_L_hindsight : GoodIn wsL_law (va_wsS RL 206 yL_hindsight wsL_hindsight) := goodIn_app (goodIn_of _ (by decide +kernel)) ggL_law_L_hindsight
set_option maxRecDepth 20000 in
theorem ggL_law_X1_hindsight : GoodIn wsL_law wsX1_hindsight := goodIn_r _ [568, 86, 187, 188, 189, 5, 190, 32, 132, 133, 134, 135, 87, 136, 137, 138, 569, 570, 571, 572, 35, 273, 125, 126, 127, 482, 483, 484, 485, 36, 88, 89, 90, 91, 699, 700, 701, 702, 703, 704, 705, 706, 707, 708, 709, 710, 711] (by decide +kernel) (by decide +kernel)
set_option maxRecDepth 20000 in
theorem gL_law_X1_hindsight : GoodIn wsL_law (wsV RL 208 RX1 yX1_hindsight wsX1_hindsight) := goodIn_app (goodIn_of _ (by decide +kernel)) ggL_law_X1_hindsight
set_option maxRecDepth 20000 in
theorem ggL_law_L_regretOf : GoodIn wsL_law wsL_regretOf := goodIn_ca (goodIn_ca (goodIn_r _ [575, 99, 47, 576, 577, 578, 2, 579, 211, 212, 213, 214, 108, 109, 198, 580, 581, 582, 583, 60, 61, 24, 79, 80, 81, 75, 76, 77, 78, 19, 584, 585, 586, 587, 25, 588, 589, 590, 591, 22, 124, 125, 126, 127, 18, 242, 243, 244, 245, 26, 681, 682, 683, 684, 685, 686, 687, 688, 689, 690, 691, 692, 693, 694, 695, 696, 697, 698] (by decide +kernel) (by decide +kernel)) (goodIn_sub (fun _ h => List.mem_append_right _ h) (by decide +kernel))) (goodIn_sub (fun _ h => List.mem_append_left _ (List.mem_append_right _ h)) (by decide +kernel))
set_option maxRecDepth 20000 in
theorem gL_law_L_regretOf : GoodIn wsL_law (va_wsS RL 209 yL_regretOf wsL_regretOf) := goodIn_app (goodIn_of _ (by decide +kernel)) ggL_law_L_regretOf
set_option maxRecDepth 20000 in
theorem ggL_law_X1_regretOf : GoodIn wsL_law wsX1_regretOf := goodIn_r _ [595, 86, 227, 228, 229, 5, 230, 203, 136, 137, 138, 88, 89, 90, 91, 596, 597, 598, 599, 32, 39, 35, 600, 601, 602, 603, 40, 604, 605, 606, 607, 41, 273, 125, 126, 127, 569, 570, 571, 572, 482, 483, 484, 485, 36, 699, 700, 701, 702, 703, 704, 705, 706, 707, 708, 709, 710, 711] (by decide +kernel) (by decide +kernel)
set_option maxRecDepth 20000 in
theorem gL_law_X1_regretOf : GoodIn wsL_law (wsV RL 211 RX1 yX1_regretOf wsX1_regretOf) := goodIn_app (goodIn_of _ (by decide +kernel)) ggL_law_X1_regretOf

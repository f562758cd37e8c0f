set_option maxRecDepth 20000 in
theorem ggL_law_L_weightOf : GoodIn wsL_law wsL_weightOf := goodIn_ca (goodIn_r _ [410, 99, 411, 412, 413, 2, 414, 18, 179, 180, 181, 182, 108, 109, 104, 105, 106, 107, 54, 152, 153, 154, 155, 55, 62, 63, 64, 79, 80, 81, 681, 682, 683, 684, 685, 686, 687, 688, 689, 690, 691, 692, 693, 694, 695, 696, 697, 698] (by decide +kernel) (by decide +kernel)) (goodIn_sub (fun _ h => List.mem_append_right _ h) (by decide +kernel))
set_option maxRecDepth 20000 in
theorem gL_law_L_weightOf : GoodIn wsL_law (va_wsS RL 172 yL_weightOf wsL_weightOf) := goodIn_app (goodIn_of _ (by decide +kernel)) ggL_law_L_weightOf
set_option maxRecDepth 20000 in
theorem ggL_law_X1_weightOf : GoodIn wsL_law wsX1_weightOf := goodIn_r _ [418, 35, 393, 394, 395, 5, 396, 86, 187, 188, 189, 190, 32, 132, 133, 134, 135, 87, 136, 137, 138, 88, 89, 90, 91, 699, 700, 701, 702, 703, 704, 705, 706, 707, 708, 709, 710, 711] (by decide +kernel) (by decide +kernel)
set_option maxRecDepth 20000 in
theorem gL_law_X1_weightOf : GoodIn wsL_law (wsV RL 174 RX1 yX1_weightOf wsX1_weightOf) := goodIn_app (goodIn_of _ (by decide +kernel)) ggL_law_X1_weightOf
set_option maxRecDepth 20000 in
theorem ggL_law_L_placeOf : GoodIn wsL_law wsL_placeOf := goodIn_ca (goodIn_r _ [421, 99, 422, 423, 424, 2, 425, 24, 211, 212, 213, 214, 108, 109, 198, 79, 80, 81, 681, 682, 683, 684, 685, 686, 687, 688, 689, 690, 691, 692, 693, 694, 695, 696, 697, 698] (by decide +kernel) (by decide +kernel)) (goodIn_sub (fun _ h => List.mem_append_right _ h) (by decide +kernel))
set_option maxRecDepth 20000 in
theorem gL_law_L_placeOf : GoodIn wsL_law (va_wsS RL 175 yL_placeOf wsL_placeOf) := goodIn_app (goodIn_of _ (by decide +kernel)) ggL_law_L_placeOf
set_option maxRecDepth 20000 in
theorem ggL_law_X1_placeOf : GoodIn wsL_law wsX1_placeOf := goodIn_r _ [429, 39, 430, 431, 432, 5, 433, 86, 227, 228, 229, 230, 203, 136, 137, 138, 88, 89, 90, 91, 699, 700, 701, 702, 703, 704, 705, 706, 707, 708, 709, 710, 711] (by decide +kernel) (by decide +kernel)
set_option maxRecDepth 20000 in
theorem gL_law_X1_placeOf : GoodIn wsL_law (wsV RL 177 RX1 yX1_placeOf wsX1_placeOf) := goodIn_app (goodIn_of _ (by decide +kernel)) ggL_law_X1_placeOf
set_option maxRecDepth 20000 in
theorem ggL_law_L_passedBy : GoodIn wsL_law wsL_passedBy := goodIn_ca (goodIn_r _ [436, 99, 437, 438, 439, 2, 440, 25, 211, 212, 213, 214, 108, 109, 198, 79, 80, 81, 681, 682, 683, 684, 685, 686, 687, 688, 689, 690, 691, 692, 693, 694, 695, 696, 697, 698] (by decide +kernel) (by decide +kernel)) (goodIn_sub (fun _ h => List.mem_append_right _ h) (by decide +kernel))
set_option maxRecDepth 20000 in
theorem gL_law_L_passedBy : GoodIn wsL_law (va_wsS RL 178 yL_passedBy wsL_passedBy) := goodIn_app (goodIn_of _ (by decide +kernel)) ggL_law_L_passedBy
set_option maxRecDepth 20000 in
theorem ggL_law_X1_passedBy : GoodIn wsL_law wsX1_passedBy := goodIn_r _ [444, 40, 430, 431, 432, 5, 433, 86, 227, 228, 229, 230, 203, 136, 137, 138, 88, 89, 90, 91, 699, 700, 701, 702, 703, 704, 705, 706, 707, 708, 709, 710, 711] (by decide +kernel) (by decide +kernel)
set_option maxRecDepth 20000 in
theorem gL_law_X1_passedBy : GoodIn wsL_law (wsV RL 180 RX1 yX1_passedBy wsX1_passedBy) := goodIn_app (goodIn_of _ (by decide +kernel)) ggL_law_X1_passedBy
set_option maxRecDepth 20000 in
theorem ggL_law_L_sureGrade : GoodIn wsL_law wsL_sureGrade := goodIn_ca (goodIn_r _ [447, 99, 448, 449, 450, 2, 451, 20, 104, 105, 106, 107, 108, 109, 54, 79, 80, 81, 681, 682, 683, 684, 685, 686, 687, 688, 689, 690, 691, 692, 693, 694, 695, 696, 697, 698] (by decide +kernel) (by decide +kernel)) (goodIn_sub (fun _ h => List.mem_append_right _ h) (by decide +kernel))
set_option maxRecDepth 20000 in
theorem gL_law_L_sureGrade : GoodIn wsL_law (va_wsS RL 181 yL_sureGrade wsL_sureGrade) := goodIn_app (goodIn_of _ (by decide +kernel)) ggL_law_L_sureGrade
set_option maxRecDepth 20000 in
theorem ggL_law_X1_sureGrade : GoodIn wsL_law wsX1_sureGrade := goodIn_r _ [455, 37, 456, 457, 458, 5, 459, 86, 269, 270, 271, 272, 87, 32, 35, 33, 34, 273, 125, 126, 127, 38, 132, 133, 134, 135, 136, 137, 138, 88, 89, 90, 91, 699, 700, 701, 702, 703, 704, 705, 706, 707, 708, 709, 710, 711] (by decide +kernel) (by decide +kernel)
set_option maxRecDepth 20000 in
theorem gL_law_X1_sureGrade : GoodIn wsL_law (wsV RL 183 RX1 yX1_sureGrade wsX1_sureGrade) := goodIn_app (goodIn_of _ (by decide +kernel)) ggL_law_X1_sureGrade
set_option maxRecDepth 20000 in
theorem ggL_law_L_hope : GoodIn wsL_law wsL_hope := goodIn_ca (goodIn_r _ [462, 99, 463, 464, 465, 2, 466, 21, 104, 105, 106, 107, 108, 109, 54, 79, 80, 81, 681, 682, 683, 684, 685, 686, 687, 688, 689, 690, 691, 692, 693, 694, 695, 696, 697, 698] (by decide +kernel) (by decide +kernel)) (goodIn_sub (fun _ h => List.mem_append_right _ h) (by decide +kernel))
set_option maxRecDepth 20000 in
theorem gL_law_L_hope : GoodIn wsL_law (va_wsS RL 184 yL_hope wsL_hope) := goodIn_app (goodIn_of _ (by decide +kernel)) ggL_law_L_hope
set_option maxRecDepth 20000 in
theorem ggL_law_X1_hope : GoodIn wsL_law wsX1_hope := goodIn_r _ [470, 38, 456, 457, 458, 5, 459, 86, 269, 270, 271, 272, 87, 32, 35, 37, 33, 34, 273, 125, 126, 127, 132, 133, 134, 135, 136, 137, 138, 88, 89, 90, 91, 699, 700, 701, 702, 703, 704, 705, 706, 707, 708, 709, 710, 711] (by decide +kernel) (by decide +kernel)
set_option maxRecDepth 20000 in
theorem gL_law_X1_hope : GoodIn wsL_law (wsV RL 186 RX1 yX1_hope wsX1_hope) := goodIn_app (goodIn_of _ (by decide +kernel)) ggL_law_X1_hope
set_option maxRecDepth 20000 in
theorem ggL_law_L_reaches : GoodIn wsL_law wsL_reaches := goodIn_ca (goodIn_r _ [473, 99, 474, 475, 476, 2, 477, 23, 104, 105, 106, 107, 108, 109, 54, 113, 114, 115, 62, 63, 64, 681, 682, 683, 684, 685, 686, 687, 688, 689, 690, 691, 692, 693, 694, 695, 696, 697, 698] (by decide +kernel) (by decide +kernel)) (goodIn_sub (fun _ h => List.mem_append_right _ h) (by decide +kernel))
set_option maxRecDepth 20000 in
theorem gL_law_L_reaches : GoodIn wsL_law (va_wsS RL 187 yL_reaches wsL_reaches) := goodIn_app (goodIn_of _ (by decide +kernel)) ggL_law_L_reaches
set_option maxRecDepth 20000 in
theorem ggL_law_X1_reaches : GoodIn wsL_law wsX1_reaches := goodIn_r _ [481, 86, 132, 133, 134, 5, 135, 87, 136, 137, 138, 482, 483, 484, 485, 36, 356, 357, 358, 359, 699, 700, 701, 702, 703, 704, 705, 706, 707, 708, 709, 710, 711] (by decide +kernel) (by decide +kernel)
set_option maxRecDepth 20000 in
theorem gL_law_X1_reaches : GoodIn wsL_law (wsV RL 189 RX1 yX1_reaches wsX1_reaches) := goodIn_app (goodIn_of _ (by decide +kernel)) ggL_law_X1_reaches
set_option maxRecDepth 20000 in
theorem ggL_law_L_examsFrom : GoodIn wsL_law wsL_examsFrom := goodIn_ca (goodIn_r _ [488, 99, 489, 490, 491, 2, 492, 23, 55, 104, 105, 106, 107, 108, 109, 54, 113, 114, 115, 302, 303, 304, 305, 306, 307, 308, 681, 682, 683, 684, 685, 686, 687, 688, 689, 690, 691, 692, 693, 694, 695, 696, 697, 698] (by decide +kernel) (by decide +kernel)) (goodIn_sub (fun _ h => List.mem_append_right _ h) (by decide +kernel))
set_option maxRecDepth 20000 in
theorem gL_law_L_examsFrom : GoodIn wsL_law (va_wsS RL 190 yL_examsFrom wsL_examsFrom) := goodIn_app (goodIn_of _ (by decide +kernel)) ggL_law_L_examsFrom

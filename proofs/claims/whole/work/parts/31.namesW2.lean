set_option maxRecDepth 20000 in
theorem ggL_law_X1_students : GoodIn wsL_law wsX1_students := goodIn_r _ [332, 203, 294, 295, 296, 5, 297, 86, 699, 700, 701, 702, 703, 704, 705, 706, 707, 708, 709, 710, 711] (by decide +kernel) (by decide +kernel)
set_option maxRecDepth 20000 in
theorem gL_law_X1_students : GoodIn wsL_law (wsV RL 152 RX1 yX1_students wsX1_students) := goodIn_app (goodIn_of _ (by decide +kernel)) ggL_law_X1_students
set_option maxRecDepth 20000 in
theorem ggL_law_X0_atExams : GoodIn wsL_law wsX0_atExams := goodIn_r _ [336, 198, 24, 79, 80, 2, 81, 152, 153, 154, 155, 55, 62, 63, 64, 681, 682, 683, 684, 685, 686, 687, 688, 689, 690, 691, 692, 693, 694, 695, 696, 697, 698] (by decide +kernel) (by decide +kernel)
set_option maxRecDepth 20000 in
theorem gL_law_X0_atExams : GoodIn wsL_law (wsV RL 153 RX0 yX0_atExams wsX0_atExams) := goodIn_app (goodIn_of _ (by decide +kernel)) ggL_law_X0_atExams
set_option maxRecDepth 20000 in
theorem ggL_law_X1_atExams : GoodIn wsL_law wsX1_atExams := goodIn_r _ [340, 341, 342, 343, 5, 344, 203, 32, 39, 294, 295, 296, 297, 86, 699, 700, 701, 702, 703, 704, 705, 706, 707, 708, 709, 710, 711] (by decide +kernel) (by decide +kernel)
set_option maxRecDepth 20000 in
theorem gL_law_X1_atExams : GoodIn wsL_law (wsV RL 156 RX1 yX1_atExams wsX1_atExams) := goodIn_app (goodIn_of _ (by decide +kernel)) ggL_law_X1_atExams
set_option maxRecDepth 20000 in
theorem ggL_law_L_isExam : GoodIn wsL_law wsL_isExam := goodIn_ca (goodIn_r _ [347, 99, 348, 349, 350, 2, 351, 104, 105, 106, 107, 108, 109, 54, 152, 153, 154, 155, 55, 62, 63, 64, 681, 682, 683, 684, 685, 686, 687, 688, 689, 690, 691, 692, 693, 694, 695, 696, 697, 698] (by decide +kernel) (by decide +kernel)) (goodIn_sub (fun _ h => List.mem_append_right _ h) (by decide +kernel))
set_option maxRecDepth 20000 in
theorem gL_law_L_isExam : GoodIn wsL_law (va_wsS RL 157 yL_isExam wsL_isExam) := goodIn_app (goodIn_of _ (by decide +kernel)) ggL_law_L_isExam
set_option maxRecDepth 20000 in
theorem ggL_law_X1_isExam : GoodIn wsL_law wsX1_isExam := goodIn_r _ [355, 86, 32, 132, 133, 134, 5, 135, 87, 136, 137, 138, 356, 357, 358, 359, 699, 700, 701, 702, 703, 704, 705, 706, 707, 708, 709, 710, 711] (by decide +kernel) (by decide +kernel)
set_option maxRecDepth 20000 in
theorem gL_law_X1_isExam : GoodIn wsL_law (wsV RL 159 RX1 yX1_isExam wsX1_isExam) := goodIn_app (goodIn_of _ (by decide +kernel)) ggL_law_X1_isExam
set_option maxRecDepth 20000 in
theorem ggL_law_L_isGraded : GoodIn wsL_law wsL_isGraded := goodIn_ca (goodIn_r _ [362, 99, 363, 364, 365, 2, 366, 148, 149, 150, 151, 108, 109, 104, 105, 106, 107, 54, 152, 153, 154, 155, 55, 62, 63, 64, 75, 76, 77, 78, 19, 79, 80, 81, 681, 682, 683, 684, 685, 686, 687, 688, 689, 690, 691, 692, 693, 694, 695, 696, 697, 698] (by decide +kernel) (by decide +kernel)) (goodIn_sub (fun _ h => List.mem_append_right _ h) (by decide +kernel))
set_option maxRecDepth 20000 in
theorem gL_law_L_isGraded : GoodIn wsL_law (va_wsS RL 160 yL_isGraded wsL_isGraded) := goodIn_app (goodIn_of _ (by decide +kernel)) ggL_law_L_isGraded
set_option maxRecDepth 20000 in
theorem ggL_law_X1_isGraded : GoodIn wsL_law wsX1_isGraded := goodIn_r _ [370, 86, 35, 164, 165, 166, 5, 167, 32, 132, 133, 134, 135, 87, 136, 137, 138, 356, 357, 358, 359, 699, 700, 701, 702, 703, 704, 705, 706, 707, 708, 709, 710, 711] (by decide +kernel) (by decide +kernel)
set_option maxRecDepth 20000 in
theorem gL_law_X1_isGraded : GoodIn wsL_law (wsV RL 162 RX1 yX1_isGraded wsX1_isGraded) := goodIn_app (goodIn_of _ (by decide +kernel)) ggL_law_X1_isGraded
set_option maxRecDepth 20000 in
theorem ggL_law_L_gradeOf : GoodIn wsL_law wsL_gradeOf := goodIn_ca (goodIn_r _ [373, 99, 374, 375, 376, 2, 377, 19, 148, 149, 150, 151, 108, 109, 104, 105, 106, 107, 54, 152, 153, 154, 155, 55, 62, 63, 64, 79, 80, 81, 681, 682, 683, 684, 685, 686, 687, 688, 689, 690, 691, 692, 693, 694, 695, 696, 697, 698] (by decide +kernel) (by decide +kernel)) (goodIn_sub (fun _ h => List.mem_append_right _ h) (by decide +kernel))
set_option maxRecDepth 20000 in
theorem gL_law_L_gradeOf : GoodIn wsL_law (va_wsS RL 163 yL_gradeOf wsL_gradeOf) := goodIn_app (goodIn_of _ (by decide +kernel)) ggL_law_L_gradeOf
set_option maxRecDepth 20000 in
theorem ggL_law_X1_gradeOf : GoodIn wsL_law wsX1_gradeOf := goodIn_r _ [381, 86, 35, 164, 165, 166, 5, 167, 32, 132, 133, 134, 135, 87, 136, 137, 138, 88, 89, 90, 91, 699, 700, 701, 702, 703, 704, 705, 706, 707, 708, 709, 710, 711] (by decide +kernel) (by decide +kernel)
set_option maxRecDepth 20000 in
theorem gL_law_X1_gradeOf : GoodIn wsL_law (wsV RL 165 RX1 yX1_gradeOf wsX1_gradeOf) := goodIn_app (goodIn_of _ (by decide +kernel)) ggL_law_X1_gradeOf
set_option maxRecDepth 20000 in
theorem ggL_law_L_leftOf : GoodIn wsL_law wsL_leftOf := goodIn_ca (goodIn_r _ [384, 99, 385, 386, 387, 2, 388, 16, 179, 180, 181, 182, 108, 109, 104, 105, 106, 107, 54, 152, 153, 154, 155, 55, 62, 63, 64, 79, 80, 81, 681, 682, 683, 684, 685, 686, 687, 688, 689, 690, 691, 692, 693, 694, 695, 696, 697, 698] (by decide +kernel) (by decide +kernel)) (goodIn_sub (fun _ h => List.mem_append_right _ h) (by decide +kernel))
set_option maxRecDepth 20000 in
theorem gL_law_L_leftOf : GoodIn wsL_law (va_wsS RL 166 yL_leftOf wsL_leftOf) := goodIn_app (goodIn_of _ (by decide +kernel)) ggL_law_L_leftOf
set_option maxRecDepth 20000 in
theorem ggL_law_X1_leftOf : GoodIn wsL_law wsX1_leftOf := goodIn_r _ [392, 33, 393, 394, 395, 5, 396, 86, 187, 188, 189, 190, 32, 132, 133, 134, 135, 87, 136, 137, 138, 88, 89, 90, 91, 699, 700, 701, 702, 703, 704, 705, 706, 707, 708, 709, 710, 711] (by decide +kernel) (by decide +kernel)
set_option maxRecDepth 20000 in
theorem gL_law_X1_leftOf : GoodIn wsL_law (wsV RL 168 RX1 yX1_leftOf wsX1_leftOf) := goodIn_app (goodIn_of _ (by decide +kernel)) ggL_law_X1_leftOf
set_option maxRecDepth 20000 in
theorem ggL_law_L_rightOf : GoodIn wsL_law wsL_rightOf := goodIn_ca (goodIn_r _ [399, 99, 400, 401, 402, 2, 403, 17, 179, 180, 181, 182, 108, 109, 104, 105, 106, 107, 54, 152, 153, 154, 155, 55, 62, 63, 64, 79, 80, 81, 681, 682, 683, 684, 685, 686, 687, 688, 689, 690, 691, 692, 693, 694, 695, 696, 697, 698] (by decide +kernel) (by decide +kernel)) (goodIn_sub (fun _ h => List.mem_append_right _ h) (by decide +kernel))
set_option maxRecDepth 20000 in
theorem gL_law_L_rightOf : GoodIn wsL_law (va_wsS RL 169 yL_rightOf wsL_rightOf) := goodIn_app (goodIn_of _ (by decide +kernel)) ggL_law_L_rightOf
set_option maxRecDepth 20000 in
theorem ggL_law_X1_rightOf : GoodIn wsL_law wsX1_rightOf := goodIn_r _ [407, 34, 393, 394, 395, 5, 396, 86, 187, 188, 189, 190, 32, 132, 133, 134, 135, 87, 136, 137, 138, 88, 89, 90, 91, 699, 700, 701, 702, 703, 704, 705, 706, 707, 708, 709, 710, 711] (by decide +kernel) (by decide +kernel)
set_option maxRecDepth 20000 in
theorem gL_law_X1_rightOf : GoodIn wsL_law (wsV RL 171 RX1 yX1_rightOf wsX1_rightOf) := goodIn_app (goodIn_of _ (by decide +kernel)) ggL_law_X1_rightOf

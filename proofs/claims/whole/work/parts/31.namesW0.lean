set_option maxRecDepth 20000 in
theorem ggL_law_X0_init : GoodIn wsL_law wsX0_init := goodIn_r _ [9, 10, 11, 12, 13, 14, 15, 16, 17, 18, 19, 20, 21, 22, 6, 23, 24, 25, 26, 681, 682, 683, 684, 685, 686, 687, 688, 689, 690, 691, 692, 693, 694, 695, 696, 697, 698] (by decide +kernel) (by decide +kernel)
set_option maxRecDepth 20000 in
theorem gL_law_X0_init : GoodIn wsL_law (wsX0_init) := ggL_law_X0_init
set_option maxRecDepth 20000 in
theorem ggL_law_X1_init : GoodIn wsL_law wsX1_init := goodIn_r _ [29, 30, 11, 12, 31, 32, 13, 33, 34, 35, 6, 36, 37, 38, 39, 40, 41, 699, 700, 701, 702, 703, 704, 705, 706, 707, 708, 709, 710, 711] (by decide +kernel) (by decide +kernel)
set_option maxRecDepth 20000 in
theorem gL_law_X1_init : GoodIn wsL_law (wsX1_init) := ggL_law_X1_init
set_option maxRecDepth 20000 in
theorem ggL_law_L_addExam : GoodIn wsL_law wsL_addExam := goodIn_ca (goodIn_ca (goodIn_r _ [45, 46, 47, 48, 49, 50, 2, 51, 52, 53, 54, 55, 14, 15, 19, 23, 56, 57, 58, 59, 60, 61, 62, 63, 64, 65, 66, 67, 68, 69, 70, 71, 72, 73, 74, 20, 21, 22, 75, 76, 77, 78, 79, 80, 81, 681, 682, 683, 684, 685, 686, 687, 688, 689, 690, 691, 692, 693, 694, 695, 696, 697, 698] (by decide +kernel) (by decide +kernel)) (goodIn_sub (fun _ h => List.mem_append_left _ (List.mem_append_left _ (List.mem_append_right _ h))) (by decide +kernel))) (goodIn_sub (fun _ h => List.mem_append_left _ (List.mem_append_right _ h)) (by decide +kernel))
set_option maxRecDepth 20000 in
theorem gL_law_L_addExam : GoodIn wsL_law (va_wsS RL 103 yL_addExam wsL_addExam) := goodIn_app (goodIn_of _ (by decide +kernel)) ggL_law_L_addExam
set_option maxRecDepth 20000 in
theorem ggL_law_X1_addExam : GoodIn wsL_law wsX1_addExam := goodIn_r _ [85, 86, 87, 33, 34, 35, 36, 88, 89, 90, 5, 91, 699, 700, 701, 702, 703, 704, 705, 706, 707, 708, 709, 710, 711] (by decide +kernel) (by decide +kernel)
set_option maxRecDepth 20000 in
theorem gL_law_X1_addExam : GoodIn wsL_law (wsV RL 108 RX1 yX1_addExam wsX1_addExam) := goodIn_app (goodIn_of _ (by decide +kernel)) ggL_law_X1_addExam
set_option maxRecDepth 20000 in
theorem ggL_law_X1_thrown : GoodIn wsL_law wsX1_thrown := goodIn_r _ [95, 86, 699, 700, 701, 702, 703, 704, 705, 706, 707, 708, 709, 710, 711] (by decide +kernel) (by decide +kernel)
set_option maxRecDepth 20000 in
theorem gL_law_X1_thrown : GoodIn wsL_law (wsV RL 109 RX1 yX1_thrown wsX1_thrown) := goodIn_app (goodIn_of _ (by decide +kernel)) ggL_law_X1_thrown
set_option maxRecDepth 20000 in
theorem ggL_law_L_addFork : GoodIn wsL_law wsL_addFork := goodIn_ca (goodIn_ca (goodIn_ca (goodIn_r _ [98, 99, 46, 47, 100, 101, 102, 2, 103, 54, 16, 17, 18, 19, 23, 104, 105, 106, 107, 108, 109, 110, 111, 112, 52, 53, 56, 57, 58, 59, 60, 61, 65, 66, 67, 62, 63, 64, 113, 114, 115, 68, 69, 70, 116, 117, 118, 119, 20, 21, 22, 120, 121, 122, 123, 124, 125, 126, 127, 79, 80, 81, 681, 682, 683, 684, 685, 686, 687, 688, 689, 690, 691, 692, 693, 694, 695, 696, 697, 698] (by decide +kernel) (by decide +kernel)) (goodIn_sub (fun _ h => List.mem_append_right _ h) (by decide +kernel))) (goodIn_sub (fun _ h => List.mem_append_left _ (List.mem_append_left _ (List.mem_append_right _ h))) (by decide +kernel))) (goodIn_sub (fun _ h => List.mem_append_left _ (List.mem_append_right _ h)) (by decide +kernel))
set_option maxRecDepth 20000 in
theorem gL_law_L_addFork : GoodIn wsL_law (va_wsS RL 113 yL_addFork wsL_addFork) := goodIn_app (goodIn_of _ (by decide +kernel)) ggL_law_L_addFork
set_option maxRecDepth 20000 in
theorem ggL_law_X1_addFork : GoodIn wsL_law wsX1_addFork := goodIn_r _ [131, 86, 87, 32, 33, 34, 35, 36, 132, 133, 134, 5, 135, 136, 137, 138, 88, 89, 90, 91, 699, 700, 701, 702, 703, 704, 705, 706, 707, 708, 709, 710, 711] (by decide +kernel) (by decide +kernel)
set_option maxRecDepth 20000 in
theorem gL_law_X1_addFork : GoodIn wsL_law (wsV RL 116 RX1 yX1_addFork wsX1_addFork) := goodIn_app (goodIn_of _ (by decide +kernel)) ggL_law_X1_addFork
set_option maxRecDepth 20000 in
theorem ggL_law_L_grade : GoodIn wsL_law wsL_grade := goodIn_ca (goodIn_ca (goodIn_ca (goodIn_r _ [141, 99, 46, 47, 142, 143, 144, 2, 145, 52, 53, 60, 61, 14, 15, 19, 146, 147, 148, 149, 150, 151, 108, 109, 104, 105, 106, 107, 54, 152, 153, 154, 155, 55, 62, 63, 64, 79, 80, 81, 75, 76, 77, 78, 65, 66, 67, 71, 72, 73, 74, 20, 21, 22, 156, 157, 158, 159, 116, 117, 118, 119, 120, 121, 122, 123, 16, 17, 124, 125, 126, 127, 681, 682, 683, 684, 685, 686, 687, 688, 689, 690, 691, 692, 693, 694, 695, 696, 697, 698] (by decide +kernel) (by decide +kernel)) (goodIn_sub (fun _ h => List.mem_append_left _ (List.mem_append_left _ (List.mem_append_right _ h))) (by decide +kernel))) (goodIn_sub (fun _ h => List.mem_append_left _ (List.mem_append_right _ h)) (by decide +kernel))) (goodIn_sub (fun _ h => List.mem_append_right _ h) (by decide +kernel))
set_option maxRecDepth 20000 in
theorem gL_law_L_grade : GoodIn wsL_law (va_wsS RL 117 yL_grade wsL_grade) := goodIn_app (goodIn_of _ (by decide +kernel)) ggL_law_L_grade
set_option maxRecDepth 20000 in
theorem ggL_law_X1_grade : GoodIn wsL_law wsX1_grade := goodIn_r _ [163, 86, 33, 34, 35, 164, 165, 166, 5, 167, 32, 132, 133, 134, 135, 87, 136, 137, 138, 88, 89, 90, 91, 168, 169, 170, 171, 699, 700, 701, 702, 703, 704, 705, 706, 707, 708, 709, 710, 711] (by decide +kernel) (by decide +kernel)
set_option maxRecDepth 20000 in
theorem gL_law_X1_grade : GoodIn wsL_law (wsV RL 119 RX1 yX1_grade wsX1_grade) := goodIn_app (goodIn_of _ (by decide +kernel)) ggL_law_X1_grade
set_option maxRecDepth 20000 in
theorem ggL_law_L_weigh : GoodIn wsL_law wsL_weigh := goodIn_ca (goodIn_ca (goodIn_r _ [174, 99, 46, 175, 176, 177, 2, 178, 18, 179, 180, 181, 182, 108, 109, 104, 105, 106, 107, 54, 152, 153, 154, 155, 55, 62, 63, 64, 110, 111, 112, 52, 53, 79, 80, 81, 65, 66, 67, 681, 682, 683, 684, 685, 686, 687, 688, 689, 690, 691, 692, 693, 694, 695, 696, 697, 698] (by decide +kernel) (by decide +kernel)) (goodIn_sub (fun _ h => List.mem_append_right _ h) (by decide +kernel))) (goodIn_sub (fun _ h => List.mem_append_left _ (List.mem_append_left _ (List.mem_append_right _ h))) (by decide +kernel))
set_option maxRecDepth 20000 in
theorem gL_law_L_weigh : GoodIn wsL_law (va_wsS RL 120 yL_weigh wsL_weigh) := goodIn_app (goodIn_of _ (by decide +kernel)) ggL_law_L_weigh
set_option maxRecDepth 20000 in
theorem ggL_law_X1_weigh : GoodIn wsL_law wsX1_weigh := goodIn_r _ [186, 86, 35, 187, 188, 189, 5, 190, 32, 132, 133, 134, 135, 87, 136, 137, 138, 88, 89, 90, 91, 699, 700, 701, 702, 703, 704, 705, 706, 707, 708, 709, 710, 711] (by decide +kernel) (by decide +kernel)
set_option maxRecDepth 20000 in
theorem gL_law_X1_weigh : GoodIn wsL_law (wsV RL 122 RX1 yX1_weigh wsX1_weigh) := goodIn_app (goodIn_of _ (by decide +kernel)) ggL_law_X1_weigh
set_option maxRecDepth 20000 in
theorem ggL_law_L_enroll : GoodIn wsL_law wsL_enroll := goodIn_ca (goodIn_ca (goodIn_r _ [193, 99, 47, 194, 195, 196, 2, 197, 60, 61, 198, 24, 104, 105, 106, 107, 108, 109, 54, 65, 66, 67, 681, 682, 683, 684, 685, 686, 687, 688, 689, 690, 691, 692, 693, 694, 695, 696, 697, 698] (by decide +kernel) (by decide +kernel)) (goodIn_sub (fun _ h => List.mem_append_left _ (List.mem_append_right _ h)) (by decide +kernel))) (goodIn_sub (fun _ h => List.mem_append_right _ h) (by decide +kernel))
set_option maxRecDepth 20000 in
theorem gL_law_L_enroll : GoodIn wsL_law (va_wsS RL 123 yL_enroll wsL_enroll) := goodIn_app (goodIn_of _ (by decide +kernel)) ggL_law_L_enroll
set_option maxRecDepth 20000 in
theorem ggL_law_X1_enroll : GoodIn wsL_law wsX1_enroll := goodIn_r _ [202, 86, 203, 39, 132, 133, 134, 5, 135, 87, 136, 137, 138, 88, 89, 90, 91, 699, 700, 701, 702, 703, 704, 705, 706, 707, 708, 709, 710, 711] (by decide +kernel) (by decide +kernel)
set_option maxRecDepth 20000 in
theorem gL_law_X1_enroll : GoodIn wsL_law (wsV RL 126 RX1 yX1_enroll wsX1_enroll) := goodIn_app (goodIn_of _ (by decide +kernel)) ggL_law_X1_enroll

set_option maxRecDepth 20000 in
theorem ggL_law_X0_rightOf : GoodIn wsL_law wsX0_rightOf := goodIn_ca (goodIn_r _ [319, 21, 155, 156, 157, 2, 158, 103, 104, 99, 100, 101, 102, 67, 134, 135, 136, 137, 68, 75, 76, 77, 92, 93, 94, 434, 435, 436, 437, 438, 439, 440, 441, 442, 443, 444, 445, 446, 447, 448, 449, 450, 451] (by decide +kernel) (by decide +kernel)) (goodIn_sub (fun _ h => List.mem_append_right _ h) (by decide +kernel))
set_option maxRecDepth 20000 in
theorem gL_law_X0_rightOf : GoodIn wsL_law (wsV RL 119 RX0 yX0_rightOf wsX0_rightOf) := goodIn_app (goodIn_of _ (by decide +kernel)) ggL_law_X0_rightOf
set_option maxRecDepth 20000 in
theorem ggL_law_X0_examsFrom : GoodIn wsL_law wsX0_examsFrom := goodIn_ca (goodIn_r _ [303, 28, 68, 99, 100, 101, 2, 102, 103, 104, 67, 108, 109, 110, 244, 245, 246, 247, 248, 249, 250, 434, 435, 436, 437, 438, 439, 440, 441, 442, 443, 444, 445, 446, 447, 448, 449, 450, 451] (by decide +kernel) (by decide +kernel)) (goodIn_sub (fun _ h => List.mem_append_right _ h) (by decide +kernel))
set_option maxRecDepth 20000 in
theorem gL_law_X0_examsFrom : GoodIn wsL_law (wsV RL 122 RX0 yX0_examsFrom wsX0_examsFrom) := goodIn_app (goodIn_of _ (by decide +kernel)) ggL_law_X0_examsFrom
set_option maxRecDepth 20000 in
theorem ggL_law_X0_isGraded : GoodIn wsL_law wsX0_isGraded := goodIn_ca (goodIn_r _ [351, 130, 131, 132, 2, 133, 103, 104, 99, 100, 101, 102, 67, 134, 135, 136, 137, 68, 75, 76, 77, 88, 89, 90, 91, 23, 92, 93, 94, 434, 435, 436, 437, 438, 439, 440, 441, 442, 443, 444, 445, 446, 447, 448, 449, 450, 451] (by decide +kernel) (by decide +kernel)) (goodIn_sub (fun _ h => List.mem_append_right _ h) (by decide +kernel))
set_option maxRecDepth 20000 in
theorem gL_law_X0_isGraded : GoodIn wsL_law (wsV RL 125 RX0 yX0_isGraded wsX0_isGraded) := goodIn_app (goodIn_of _ (by decide +kernel)) ggL_law_X0_isGraded
set_option maxRecDepth 20000 in
theorem ggL_law_X0_gradeOf : GoodIn wsL_law wsX0_gradeOf := goodIn_ca (goodIn_r _ [311, 23, 130, 131, 132, 2, 133, 103, 104, 99, 100, 101, 102, 67, 134, 135, 136, 137, 68, 75, 76, 77, 92, 93, 94, 434, 435, 436, 437, 438, 439, 440, 441, 442, 443, 444, 445, 446, 447, 448, 449, 450, 451] (by decide +kernel) (by decide +kernel)) (goodIn_sub (fun _ h => List.mem_append_right _ h) (by decide +kernel))
set_option maxRecDepth 20000 in
theorem gL_law_X0_gradeOf : GoodIn wsL_law (wsV RL 128 RX0 yX0_gradeOf wsX0_gradeOf) := goodIn_app (goodIn_of _ (by decide +kernel)) ggL_law_X0_gradeOf
set_option maxRecDepth 20000 in
theorem ggL_law_X0_weightOf : GoodIn wsL_law wsX0_weightOf := goodIn_ca (goodIn_r _ [323, 22, 155, 156, 157, 2, 158, 103, 104, 99, 100, 101, 102, 67, 134, 135, 136, 137, 68, 75, 76, 77, 92, 93, 94, 434, 435, 436, 437, 438, 439, 440, 441, 442, 443, 444, 445, 446, 447, 448, 449, 450, 451] (by decide +kernel) (by decide +kernel)) (goodIn_sub (fun _ h => List.mem_append_right _ h) (by decide +kernel))
set_option maxRecDepth 20000 in
theorem gL_law_X0_weightOf : GoodIn wsL_law (wsV RL 131 RX0 yX0_weightOf wsX0_weightOf) := goodIn_app (goodIn_of _ (by decide +kernel)) ggL_law_X0_weightOf
set_option maxRecDepth 20000 in
theorem ggL_law_X0_risk : GoodIn wsL_law wsX0_risk := goodIn_ca (goodIn_r _ [357, 155, 156, 157, 2, 158, 103, 104, 99, 100, 101, 102, 67, 134, 135, 136, 137, 68, 75, 76, 77, 223, 224, 225, 226, 24, 25, 119, 5, 6, 7, 22, 183, 184, 185, 186, 21, 20, 92, 93, 94, 434, 435, 436, 437, 438, 439, 440, 441, 442, 443, 444, 445, 446, 447, 448, 449, 450, 451] (by decide +kernel) (by decide +kernel)) (goodIn_sub (fun _ h => List.mem_append_right _ h) (by decide +kernel))
set_option maxRecDepth 20000 in
theorem gL_law_X0_risk : GoodIn wsL_law (wsV RL 134 RX0 yX0_risk wsX0_risk) := goodIn_app (goodIn_of _ (by decide +kernel)) ggL_law_X0_risk

set_option maxRecDepth 20000 in
theorem ggL_law_X0_sureGrade : GoodIn wsL_law wsX0_sureGrade := goodIn_ca (goodIn_r _ [295, 24, 99, 100, 101, 2, 102, 103, 104, 67, 92, 93, 94, 434, 435, 436, 437, 438, 439, 440, 441, 442, 443, 444, 445, 446, 447, 448, 449, 450, 451] (by decide +kernel) (by decide +kernel)) (goodIn_sub (fun _ h => List.mem_append_right _ h) (by decide +kernel))
set_option maxRecDepth 20000 in
theorem gL_law_X0_sureGrade : GoodIn wsL_law (wsV RL 100 RX0 yX0_sureGrade wsX0_sureGrade) := goodIn_app (goodIn_of _ (by decide +kernel)) ggL_law_X0_sureGrade
set_option maxRecDepth 20000 in
theorem ggL_law_X0_hope : GoodIn wsL_law wsX0_hope := goodIn_ca (goodIn_r _ [299, 25, 99, 100, 101, 2, 102, 103, 104, 67, 92, 93, 94, 434, 435, 436, 437, 438, 439, 440, 441, 442, 443, 444, 445, 446, 447, 448, 449, 450, 451] (by decide +kernel) (by decide +kernel)) (goodIn_sub (fun _ h => List.mem_append_right _ h) (by decide +kernel))
set_option maxRecDepth 20000 in
theorem gL_law_X0_hope : GoodIn wsL_law (wsV RL 103 RX0 yX0_hope wsX0_hope) := goodIn_app (goodIn_of _ (by decide +kernel)) ggL_law_X0_hope
set_option maxRecDepth 20000 in
theorem ggL_law_X0_planLeadsTo : GoodIn wsL_law wsX0_planLeadsTo := goodIn_ca (goodIn_r _ [307, 99, 100, 101, 2, 102, 103, 104, 67, 134, 135, 136, 137, 68, 75, 76, 77, 219, 220, 221, 222, 223, 224, 225, 226, 24, 25, 119, 5, 6, 7, 22, 183, 184, 185, 186, 21, 20, 92, 93, 94, 434, 435, 436, 437, 438, 439, 440, 441, 442, 443, 444, 445, 446, 447, 448, 449, 450, 451] (by decide +kernel) (by decide +kernel)) (goodIn_sub (fun _ h => List.mem_append_right _ h) (by decide +kernel))
set_option maxRecDepth 20000 in
theorem gL_law_X0_planLeadsTo : GoodIn wsL_law (wsV RL 106 RX0 yX0_planLeadsTo wsX0_planLeadsTo) := goodIn_app (goodIn_of _ (by decide +kernel)) ggL_law_X0_planLeadsTo
set_option maxRecDepth 20000 in
theorem ggL_law_X0_isExam : GoodIn wsL_law wsX0_isExam := goodIn_ca (goodIn_r _ [291, 99, 100, 101, 2, 102, 103, 104, 67, 134, 135, 136, 137, 68, 75, 76, 77, 434, 435, 436, 437, 438, 439, 440, 441, 442, 443, 444, 445, 446, 447, 448, 449, 450, 451] (by decide +kernel) (by decide +kernel)) (goodIn_sub (fun _ h => List.mem_append_right _ h) (by decide +kernel))
set_option maxRecDepth 20000 in
theorem gL_law_X0_isExam : GoodIn wsL_law (wsV RL 109 RX0 yX0_isExam wsX0_isExam) := goodIn_app (goodIn_of _ (by decide +kernel)) ggL_law_X0_isExam
set_option maxRecDepth 20000 in
theorem ggL_law_X0_reaches : GoodIn wsL_law wsX0_reaches := goodIn_ca (goodIn_r _ [344, 28, 99, 100, 101, 2, 102, 103, 104, 67, 108, 109, 110, 75, 76, 77, 434, 435, 436, 437, 438, 439, 440, 441, 442, 443, 444, 445, 446, 447, 448, 449, 450, 451] (by decide +kernel) (by decide +kernel)) (goodIn_sub (fun _ h => List.mem_append_right _ h) (by decide +kernel))
set_option maxRecDepth 20000 in
theorem gL_law_X0_reaches : GoodIn wsL_law (wsV RL 112 RX0 yX0_reaches wsX0_reaches) := goodIn_app (goodIn_of _ (by decide +kernel)) ggL_law_X0_reaches
set_option maxRecDepth 20000 in
theorem ggL_law_X0_leftOf : GoodIn wsL_law wsX0_leftOf := goodIn_ca (goodIn_r _ [315, 20, 155, 156, 157, 2, 158, 103, 104, 99, 100, 101, 102, 67, 134, 135, 136, 137, 68, 75, 76, 77, 92, 93, 94, 434, 435, 436, 437, 438, 439, 440, 441, 442, 443, 444, 445, 446, 447, 448, 449, 450, 451] (by decide +kernel) (by decide +kernel)) (goodIn_sub (fun _ h => List.mem_append_right _ h) (by decide +kernel))
set_option maxRecDepth 20000 in
theorem gL_law_X0_leftOf : GoodIn wsL_law (wsV RL 116 RX0 yX0_leftOf wsX0_leftOf) := goodIn_app (goodIn_of _ (by decide +kernel)) ggL_law_X0_leftOf

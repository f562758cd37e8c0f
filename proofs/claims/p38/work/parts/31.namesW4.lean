set_option maxRecDepth 20000 in
theorem ggL_law_X0_worstFork : GoodIn wsL_law wsX0_worstFork := goodIn_ca (goodIn_ca (goodIn_r _ [377, 30, 175, 176, 177, 2, 178, 103, 104, 163, 370, 371, 372, 373, 73, 74, 29, 92, 93, 94, 88, 89, 90, 91, 23, 280, 281, 282, 283, 26, 119, 5, 6, 7, 22, 194, 195, 196, 197, 31, 434, 435, 436, 437, 438, 439, 440, 441, 442, 443, 444, 445, 446, 447, 448, 449, 450, 451] (by decide +kernel) (by decide +kernel)) (goodIn_sub (fun _ h => List.mem_append_right _ h) (by decide +kernel))) (goodIn_sub (fun _ h => List.mem_append_left _ (List.mem_append_right _ h)) (by decide +kernel))
set_option maxRecDepth 20000 in
theorem gL_law_X0_worstFork : GoodIn wsL_law (wsV RL 162 RX0 yX0_worstFork wsX0_worstFork) := goodIn_app (goodIn_of _ (by decide +kernel)) ggL_law_X0_worstFork
set_option maxRecDepth 20000 in
theorem ggL_law_X0_passedBy : GoodIn wsL_law wsX0_passedBy := goodIn_ca (goodIn_r _ [335, 30, 175, 176, 177, 2, 178, 103, 104, 163, 92, 93, 94, 434, 435, 436, 437, 438, 439, 440, 441, 442, 443, 444, 445, 446, 447, 448, 449, 450, 451] (by decide +kernel) (by decide +kernel)) (goodIn_sub (fun _ h => List.mem_append_right _ h) (by decide +kernel))
set_option maxRecDepth 20000 in
theorem gL_law_X0_passedBy : GoodIn wsL_law (wsV RL 165 RX0 yX0_passedBy wsX0_passedBy) := goodIn_app (goodIn_of _ (by decide +kernel)) ggL_law_X0_passedBy
set_option maxRecDepth 20000 in
theorem ggL_law_X0_exams : GoodIn wsL_law wsX0_exams := goodIn_r _ [243, 68, 244, 245, 246, 247, 248, 249, 250, 434, 435, 436, 437, 438, 439, 440, 441, 442, 443, 444, 445, 446, 447, 448, 449, 450, 451] (by decide +kernel) (by decide +kernel)
set_option maxRecDepth 20000 in
theorem gL_law_X0_exams : GoodIn wsL_law (wsV RL 168 RX0 yX0_exams wsX0_exams) := goodIn_app (goodIn_of _ (by decide +kernel)) ggL_law_X0_exams
set_option maxRecDepth 20000 in
theorem ggL_law_X0_graded : GoodIn wsL_law wsX0_graded := goodIn_r _ [254, 128, 434, 435, 436, 437, 438, 439, 440, 441, 442, 443, 444, 445, 446, 447, 448, 449, 450, 451] (by decide +kernel) (by decide +kernel)
set_option maxRecDepth 20000 in
theorem gL_law_X0_graded : GoodIn wsL_law (wsV RL 171 RX0 yX0_graded wsX0_graded) := goodIn_app (goodIn_of _ (by decide +kernel)) ggL_law_X0_graded
set_option maxRecDepth 20000 in
theorem ggL_law_X0_allRegret : GoodIn wsL_law wsX0_allRegret := goodIn_r _ [275, 163, 29, 92, 93, 2, 94, 88, 89, 90, 91, 23, 276, 277, 278, 279, 30, 280, 281, 282, 283, 26, 119, 5, 6, 7, 22, 194, 195, 196, 197, 31, 434, 435, 436, 437, 438, 439, 440, 441, 442, 443, 444, 445, 446, 447, 448, 449, 450, 451] (by decide +kernel) (by decide +kernel)
set_option maxRecDepth 20000 in
theorem gL_law_X0_allRegret : GoodIn wsL_law (wsV RL 172 RX0 yX0_allRegret wsX0_allRegret) := goodIn_app (goodIn_of _ (by decide +kernel)) ggL_law_X0_allRegret
set_option maxRecDepth 20000 in
theorem ggL_law_L_below : GoodIn wsL_law wsL_below := goodIn_r _ [51, 52] (by decide +kernel) (by decide +kernel)
set_option maxRecDepth 20000 in
theorem gL_law_L_below : GoodIn wsL_law (va_wsS RL 15 yL_below wsL_below) := goodIn_app (goodIn_of _ (by decide +kernel)) ggL_law_L_below

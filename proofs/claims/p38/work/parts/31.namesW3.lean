set_option maxRecDepth 20000 in
theorem ggL_law_X0_planTurnsRight : GoodIn wsL_law wsX0_planTurnsRight := goodIn_ca (goodIn_r _ [361, 155, 156, 157, 2, 158, 103, 104, 99, 100, 101, 102, 67, 134, 135, 136, 137, 68, 75, 76, 77, 219, 220, 221, 222, 223, 224, 225, 226, 24, 25, 119, 5, 6, 7, 22, 183, 184, 185, 186, 21, 20, 92, 93, 94, 434, 435, 436, 437, 438, 439, 440, 441, 442, 443, 444, 445, 446, 447, 448, 449, 450, 451] (by decide +kernel) (by decide +kernel)) (goodIn_sub (fun _ h => List.mem_append_right _ h) (by decide +kernel))
set_option maxRecDepth 20000 in
theorem gL_law_X0_planTurnsRight : GoodIn wsL_law (wsV RL 142 RX0 yX0_planTurnsRight wsX0_planTurnsRight) := goodIn_app (goodIn_of _ (by decide +kernel)) ggL_law_X0_planTurnsRight
set_option maxRecDepth 20000 in
theorem ggL_law_X0_riskiestFork : GoodIn wsL_law wsX0_riskiestFork := goodIn_r _ [266, 67, 134, 135, 136, 2, 137, 68, 75, 76, 77, 267, 268, 269, 270, 271, 9, 6, 10, 223, 224, 225, 226, 24, 25, 119, 5, 7, 22, 183, 184, 185, 186, 21, 20, 92, 93, 94, 434, 435, 436, 437, 438, 439, 440, 441, 442, 443, 444, 445, 446, 447, 448, 449, 450, 451] (by decide +kernel) (by decide +kernel)
set_option maxRecDepth 20000 in
theorem gL_law_X0_riskiestFork : GoodIn wsL_law (wsV RL 148 RX0 yX0_riskiestFork wsX0_riskiestFork) := goodIn_app (goodIn_of _ (by decide +kernel)) ggL_law_X0_riskiestFork
set_option maxRecDepth 20000 in
theorem ggL_law_X0_hindsight : GoodIn wsL_law wsX0_hindsight := goodIn_ca (goodIn_r _ [327, 26, 155, 156, 157, 2, 158, 103, 104, 99, 100, 101, 102, 67, 134, 135, 136, 137, 68, 75, 76, 77, 92, 93, 94, 434, 435, 436, 437, 438, 439, 440, 441, 442, 443, 444, 445, 446, 447, 448, 449, 450, 451] (by decide +kernel) (by decide +kernel)) (goodIn_sub (fun _ h => List.mem_append_right _ h) (by decide +kernel))
set_option maxRecDepth 20000 in
theorem gL_law_X0_hindsight : GoodIn wsL_law (wsV RL 151 RX0 yX0_hindsight wsX0_hindsight) := goodIn_app (goodIn_of _ (by decide +kernel)) ggL_law_X0_hindsight
set_option maxRecDepth 20000 in
theorem ggL_law_X0_students : GoodIn wsL_law wsX0_students := goodIn_r _ [258, 163, 434, 435, 436, 437, 438, 439, 440, 441, 442, 443, 444, 445, 446, 447, 448, 449, 450, 451] (by decide +kernel) (by decide +kernel)
set_option maxRecDepth 20000 in
theorem gL_law_X0_students : GoodIn wsL_law (wsV RL 154 RX0 yX0_students wsX0_students) := goodIn_app (goodIn_of _ (by decide +kernel)) ggL_law_X0_students
set_option maxRecDepth 20000 in
theorem ggL_law_X0_placeOf : GoodIn wsL_law wsX0_placeOf := goodIn_ca (goodIn_r _ [331, 29, 175, 176, 177, 2, 178, 103, 104, 163, 92, 93, 94, 434, 435, 436, 437, 438, 439, 440, 441, 442, 443, 444, 445, 446, 447, 448, 449, 450, 451] (by decide +kernel) (by decide +kernel)) (goodIn_sub (fun _ h => List.mem_append_right _ h) (by decide +kernel))
set_option maxRecDepth 20000 in
theorem gL_law_X0_placeOf : GoodIn wsL_law (wsV RL 156 RX0 yX0_placeOf wsX0_placeOf) := goodIn_app (goodIn_of _ (by decide +kernel)) ggL_law_X0_placeOf
set_option maxRecDepth 20000 in
theorem ggL_law_X0_regretOf : GoodIn wsL_law wsX0_regretOf := goodIn_ca (goodIn_ca (goodIn_r _ [369, 175, 176, 177, 2, 178, 103, 104, 163, 370, 371, 372, 373, 73, 74, 29, 92, 93, 94, 88, 89, 90, 91, 23, 276, 277, 278, 279, 30, 280, 281, 282, 283, 26, 119, 5, 6, 7, 22, 194, 195, 196, 197, 31, 434, 435, 436, 437, 438, 439, 440, 441, 442, 443, 444, 445, 446, 447, 448, 449, 450, 451] (by decide +kernel) (by decide +kernel)) (goodIn_sub (fun _ h => List.mem_append_right _ h) (by decide +kernel))) (goodIn_sub (fun _ h => List.mem_append_left _ (List.mem_append_right _ h)) (by decide +kernel))
set_option maxRecDepth 20000 in
theorem gL_law_X0_regretOf : GoodIn wsL_law (wsV RL 159 RX0 yX0_regretOf wsX0_regretOf) := goodIn_app (goodIn_of _ (by decide +kernel)) ggL_law_X0_regretOf

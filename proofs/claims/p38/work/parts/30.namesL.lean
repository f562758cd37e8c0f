theorem dL_below_0 : decode cL_below 0 = .ok (.iload_n 0, 1) := by decide +kernel
theorem dL_below_1 : decode cL_below 1 = .ok (.ldc 7, 2) := by decide +kernel
theorem dL_below_3 : decode cL_below 3 = .ok (.iand, 1) := by decide +kernel
theorem dL_below_4 : decode cL_below 4 = .ok (.iload_n 1, 1) := by decide +kernel
theorem dL_below_5 : decode cL_below 5 = .ok (.irem, 1) := by decide +kernel
theorem dL_below_6 : decode cL_below 6 = .ok (.ireturn, 1) := by decide +kernel
theorem dL_cell_0 : decode cL_cell 0 = .ok (.iload_n 1, 1) := by decide +kernel
theorem dL_cell_1 : decode cL_cell 1 = .ok (.aload_n 0, 1) := by decide +kernel
theorem dL_cell_2 : decode cL_cell 2 = .ok (.arraylength, 1) := by decide +kernel
theorem dL_cell_3 : decode cL_cell 3 = .ok (.if_icmp .ge 9, 3) := by decide +kernel
theorem dL_cell_6 : decode cL_cell 6 = .ok (.aload_n 0, 1) := by decide +kernel
theorem dL_cell_7 : decode cL_cell 7 = .ok (.iload_n 1, 1) := by decide +kernel
theorem dL_cell_8 : decode cL_cell 8 = .ok (.iaload, 1) := by decide +kernel
theorem dL_cell_9 : decode cL_cell 9 = .ok (.goto 9, 3) := by decide +kernel
theorem dL_cell_12 : decode cL_cell 12 = .ok (.ldc 8, 2) := by decide +kernel
theorem dL_cell_14 : decode cL_cell 14 = .ok (.iload_n 1, 1) := by decide +kernel
theorem dL_cell_15 : decode cL_cell 15 = .ok (.iconst 3, 1) := by decide +kernel
theorem dL_cell_16 : decode cL_cell 16 = .ok (.iadd, 1) := by decide +kernel
theorem dL_cell_17 : decode cL_cell 17 = .ok (.imul, 1) := by decide +kernel
theorem dL_cell_18 : decode cL_cell 18 = .ok (.ireturn, 1) := by decide +kernel
set_option maxRecDepth 20000 in
theorem ggL_act_L_below : GoodIn wsL_act wsL_below := goodIn_r _ [8, 9] (by decide +kernel) (by decide +kernel)
set_option maxRecDepth 20000 in
theorem gL_act_L_below : GoodIn wsL_act (va_wsS RL 15 yL_below wsL_below) := goodIn_app (goodIn_of _ (by decide +kernel)) ggL_act_L_below
set_option maxRecDepth 20000 in
theorem ggL_act_X1_with : GoodIn wsL_act wsX1_with := goodIn_r _ [13, 14] (by decide +kernel) (by decide +kernel)
set_option maxRecDepth 20000 in
theorem gL_act_X1_with : GoodIn wsL_act (va_wsS RL 24 yX1_with wsX1_with) := goodIn_app (goodIn_of _ (by decide +kernel)) ggL_act_X1_with
set_option maxRecDepth 20000 in
theorem ggL_act_X0_addExam : GoodIn wsL_act wsX0_addExam := goodIn_ca (goodIn_ca (goodIn_r _ [19, 20, 21, 22, 23, 24, 25, 26, 27, 28, 29, 30, 18, 31, 32, 33, 34, 35, 36, 37, 38, 39, 40, 41, 42, 43, 44, 45, 46, 47, 48, 49, 50, 51, 52, 53, 54, 55, 56, 202, 203, 204, 205, 206, 207, 208, 209, 210, 211, 212, 213, 214, 215, 216, 217, 218, 219] (by decide +kernel) (by decide +kernel)) (goodIn_sub (fun _ h => List.mem_cons_of_mem _ (List.mem_append_left _ (List.mem_append_left _ (List.mem_append_right _ h)))) (by decide +kernel))) (goodIn_sub (fun _ h => List.mem_cons_of_mem _ (List.mem_append_left _ (List.mem_append_right _ h))) (by decide +kernel))
set_option maxRecDepth 20000 in
theorem gL_act_X0_addExam : GoodIn wsL_act (wsV RL 28 RX0 yX0_addExam wsX0_addExam) := goodIn_app (goodIn_of _ (by decide +kernel)) ggL_act_X0_addExam
set_option maxRecDepth 20000 in
theorem ggL_act_X0_addFork : GoodIn wsL_act wsX0_addFork := goodIn_ca (goodIn_ca (goodIn_ca (goodIn_r _ [60, 22, 61, 62, 63, 26, 27, 64, 65, 66, 18, 67, 68, 69, 70, 71, 72, 20, 21, 28, 29, 30, 31, 32, 33, 37, 38, 39, 34, 35, 36, 73, 74, 75, 40, 41, 42, 76, 77, 78, 79, 47, 48, 49, 80, 81, 82, 83, 84, 85, 86, 87, 54, 55, 56, 202, 203, 204, 205, 206, 207, 208, 209, 210, 211, 212, 213, 214, 215, 216, 217, 218, 219] (by decide +kernel) (by decide +kernel)) (goodIn_sub (fun _ h => List.mem_cons_of_mem _ (List.mem_append_right _ h)) (by decide +kernel))) (goodIn_sub (fun _ h => List.mem_cons_of_mem _ (List.mem_append_left _ (List.mem_append_left _ (List.mem_append_right _ h)))) (by decide +kernel))) (goodIn_sub (fun _ h => List.mem_cons_of_mem _ (List.mem_append_left _ (List.mem_append_right _ h))) (by decide +kernel))
set_option maxRecDepth 20000 in
theorem gL_act_X0_addFork : GoodIn wsL_act (wsV RL 33 RX0 yX0_addFork wsX0_addFork) := goodIn_app (goodIn_of _ (by decide +kernel)) ggL_act_X0_addFork
set_option maxRecDepth 20000 in
theorem ggL_act_X1_isFork : GoodIn wsL_act wsX1_isFork := goodIn_r _ [91, 92, 200, 201] (by decide +kernel) (by decide +kernel)
set_option maxRecDepth 20000 in
theorem gL_act_X1_isFork : GoodIn wsL_act (wsV RL 37 RX1 yX1_isFork wsX1_isFork) := goodIn_app (goodIn_of _ (by decide +kernel)) ggL_act_X1_isFork
set_option maxRecDepth 20000 in
theorem ggL_act_X0_grade : GoodIn wsL_act wsX0_grade := goodIn_ca (goodIn_ca (goodIn_ca (goodIn_r _ [96, 20, 21, 32, 33, 24, 25, 26, 97, 98, 99, 100, 101, 18, 102, 68, 69, 64, 65, 66, 67, 22, 103, 104, 105, 106, 23, 34, 35, 36, 54, 55, 56, 50, 51, 52, 53, 37, 38, 39, 43, 44, 45, 46, 47, 48, 49, 107, 108, 109, 110, 76, 77, 78, 79, 80, 81, 82, 83, 61, 62, 84, 85, 86, 87, 202, 203, 204, 205, 206, 207, 208, 209, 210, 211, 212, 213, 214, 215, 216, 217, 218, 219] (by decide +kernel) (by decide +kernel)) (goodIn_sub (fun _ h => List.mem_cons_of_mem _ (List.mem_append_left _ (List.mem_append_left _ (List.mem_append_right _ h)))) (by decide +kernel))) (goodIn_sub (fun _ h => List.mem_cons_of_mem _ (List.mem_append_left _ (List.mem_append_right _ h))) (by decide +kernel))) (goodIn_sub (fun _ h => List.mem_cons_of_mem _ (List.mem_append_right _ h)) (by decide +kernel))
set_option maxRecDepth 20000 in
theorem gL_act_X0_grade : GoodIn wsL_act (wsV RL 41 RX0 yX0_grade wsX0_grade) := goodIn_app (goodIn_of _ (by decide +kernel)) ggL_act_X0_grade
set_option maxRecDepth 20000 in
theorem ggL_act_X1_graded : GoodIn wsL_act wsX1_graded := goodIn_r _ [114, 92, 115, 116, 117, 12, 118, 119, 89, 90, 91, 200, 201] (by decide +kernel) (by decide +kernel)
set_option maxRecDepth 20000 in
theorem gL_act_X1_graded : GoodIn wsL_act (wsV RL 44 RX1 yX1_graded wsX1_graded) := goodIn_app (goodIn_of _ (by decide +kernel)) ggL_act_X1_graded
set_option maxRecDepth 20000 in
theorem ggL_act_X0_weigh : GoodIn wsL_act wsX0_weigh := goodIn_ca (goodIn_ca (goodIn_r _ [123, 63, 124, 125, 126, 18, 127, 68, 69, 64, 65, 66, 67, 22, 103, 104, 105, 106, 23, 34, 35, 36, 70, 71, 72, 20, 21, 54, 55, 56, 37, 38, 39, 202, 203, 204, 205, 206, 207, 208, 209, 210, 211, 212, 213, 214, 215, 216, 217, 218, 219] (by decide +kernel) (by decide +kernel)) (goodIn_sub (fun _ h => List.mem_cons_of_mem _ (List.mem_append_right _ h)) (by decide +kernel))) (goodIn_sub (fun _ h => List.mem_cons_of_mem _ (List.mem_append_left _ (List.mem_append_left _ (List.mem_append_right _ h)))) (by decide +kernel))
set_option maxRecDepth 20000 in
theorem gL_act_X0_weigh : GoodIn wsL_act (wsV RL 48 RX0 yX0_weigh wsX0_weigh) := goodIn_app (goodIn_of _ (by decide +kernel)) ggL_act_X0_weigh
set_option maxRecDepth 20000 in
theorem ggL_act_X0_enroll : GoodIn wsL_act wsX0_enroll := goodIn_ca (goodIn_ca (goodIn_r _ [131, 32, 33, 132, 133, 64, 65, 66, 18, 67, 68, 69, 22, 37, 38, 39, 202, 203, 204, 205, 206, 207, 208, 209, 210, 211, 212, 213, 214, 215, 216, 217, 218, 219] (by decide +kernel) (by decide +kernel)) (goodIn_sub (fun _ h => List.mem_cons_of_mem _ (List.mem_append_left _ (List.mem_append_right _ h))) (by decide +kernel))) (goodIn_sub (fun _ h => List.mem_cons_of_mem _ (List.mem_append_right _ h)) (by decide +kernel))
set_option maxRecDepth 20000 in
theorem gL_act_X0_enroll : GoodIn wsL_act (wsV RL 51 RX0 yX0_enroll wsX0_enroll) := goodIn_app (goodIn_of _ (by decide +kernel)) ggL_act_X0_enroll
set_option maxRecDepth 20000 in
theorem ggL_act_X1_at : GoodIn wsL_act wsX1_at := goodIn_r _ [137, 138, 200, 201] (by decide +kernel) (by decide +kernel)
set_option maxRecDepth 20000 in
theorem gL_act_X1_at : GoodIn wsL_act (wsV RL 55 RX1 yX1_at wsX1_at) := goodIn_app (goodIn_of _ (by decide +kernel)) ggL_act_X1_at
set_option maxRecDepth 20000 in
theorem ggL_act_X1_with_ : GoodIn wsL_act wsX1_with_ := goodIn_r _ [141, 4] (by decide +kernel) (by decide +kernel)
set_option maxRecDepth 20000 in
theorem gL_act_X1_with_ : GoodIn wsL_act (va_wsS RL 58 yX1_with_ wsX1_with_) := goodIn_app (goodIn_of _ (by decide +kernel)) ggL_act_X1_with_
set_option maxRecDepth 20000 in
theorem ggL_act_X0_turn : GoodIn wsL_act wsX0_turn := goodIn_ca (goodIn_ca (goodIn_r _ [145, 32, 33, 133, 146, 147, 148, 18, 149, 68, 69, 132, 54, 55, 56, 103, 104, 105, 106, 23, 34, 35, 36, 150, 151, 152, 153, 154, 155, 37, 38, 39, 156, 157, 158, 159, 62, 61, 202, 203, 204, 205, 206, 207, 208, 209, 210, 211, 212, 213, 214, 215, 216, 217, 218, 219] (by decide +kernel) (by decide +kernel)) (goodIn_sub (fun _ h => List.mem_cons_of_mem _ (List.mem_append_left _ (List.mem_append_right _ h))) (by decide +kernel))) (goodIn_sub (fun _ h => List.mem_cons_of_mem _ (List.mem_append_right _ h)) (by decide +kernel))
set_option maxRecDepth 20000 in
theorem gL_act_X0_turn : GoodIn wsL_act (wsV RL 61 RX0 yX0_turn wsX0_turn) := goodIn_app (goodIn_of _ (by decide +kernel)) ggL_act_X0_turn
set_option maxRecDepth 20000 in
theorem ggL_act_L_less : GoodIn wsL_act wsL_less := goodIn_r _ [162, 4] (by decide +kernel) (by decide +kernel)
set_option maxRecDepth 20000 in
theorem gL_act_L_less : GoodIn wsL_act (va_wsS RL 65 yL_less wsL_less) := goodIn_app (goodIn_of _ (by decide +kernel)) ggL_act_L_less
set_option maxRecDepth 20000 in
theorem ggL_act_X0_goBack : GoodIn wsL_act wsX0_goBack := goodIn_ca (goodIn_ca (goodIn_r _ [166, 32, 33, 154, 133, 146, 147, 148, 18, 149, 68, 69, 132, 54, 55, 56, 167, 168, 169, 170, 155, 37, 38, 39, 202, 203, 204, 205, 206, 207, 208, 209, 210, 211, 212, 213, 214, 215, 216, 217, 218, 219] (by decide +kernel) (by decide +kernel)) (goodIn_sub (fun _ h => List.mem_cons_of_mem _ (List.mem_append_left _ (List.mem_append_right _ h))) (by decide +kernel))) (goodIn_sub (fun _ h => List.mem_cons_of_mem _ (List.mem_append_right _ h)) (by decide +kernel))
set_option maxRecDepth 20000 in
theorem gL_act_X0_goBack : GoodIn wsL_act (wsV RL 69 RX0 yX0_goBack wsX0_goBack) := goodIn_app (goodIn_of _ (by decide +kernel)) ggL_act_X0_goBack
set_option maxRecDepth 20000 in
theorem ggL_act_X1_next : GoodIn wsL_act wsX1_next := goodIn_r _ [174, 92, 175, 176, 177, 12, 178, 179, 180, 181, 182, 183, 184, 185, 186, 187, 119, 89, 90, 91, 115, 116, 117, 118, 200, 201] (by decide +kernel) (by decide +kernel)
set_option maxRecDepth 20000 in
theorem gL_act_X1_next : GoodIn wsL_act (wsV RL 72 RX1 yX1_next wsX1_next) := goodIn_app (goodIn_of _ (by decide +kernel)) ggL_act_X1_next
set_option maxRecDepth 20000 in
theorem ggL_act_X0_follow : GoodIn wsL_act wsX0_follow := goodIn_ca (goodIn_r _ [191, 133, 146, 147, 148, 18, 149, 68, 69, 132, 54, 55, 56, 103, 104, 105, 106, 23, 34, 35, 36, 192, 193, 194, 195, 196, 197, 198, 199, 47, 48, 84, 85, 86, 87, 63, 156, 157, 158, 159, 62, 61, 150, 151, 152, 153, 154, 155, 37, 38, 39, 202, 203, 204, 205, 206, 207, 208, 209, 210, 211, 212, 213, 214, 215, 216, 217, 218, 219] (by decide +kernel) (by decide +kernel)) (goodIn_sub (fun _ h => List.mem_cons_of_mem _ (List.mem_append_right _ h)) (by decide +kernel))
set_option maxRecDepth 20000 in
theorem gL_act_X0_follow : GoodIn wsL_act (wsV RL 75 RX0 yX0_follow wsX0_follow) := goodIn_app (goodIn_of _ (by decide +kernel)) ggL_act_X0_follow
theorem dL_act_0 : decode cL_act 0 = .ok (.aload_n 1, 1) := by decide +kernel
theorem dL_act_1 : decode cL_act 1 = .ok (.getfield 9, 3) := by decide +kernel
theorem dL_act_4 : decode cL_act 4 = .ok (.arraylength, 1) := by decide +kernel
theorem dL_act_5 : decode cL_act 5 = .ok (.istore_n 3, 1) := by decide +kernel
theorem dL_act_6 : decode cL_act 6 = .ok (.iload_n 3, 1) := by decide +kernel
theorem dL_act_7 : decode cL_act 7 = .ok (.ifCond .ne 7, 3) := by decide +kernel
theorem dL_act_10 : decode cL_act 10 = .ok (.iconst 0, 1) := by decide +kernel
theorem dL_act_11 : decode cL_act 11 = .ok (.goto 10, 3) := by decide +kernel
theorem dL_act_14 : decode cL_act 14 = .ok (.iload_n 2, 1) := by decide +kernel
theorem dL_act_15 : decode cL_act 15 = .ok (.iconst 3, 1) := by decide +kernel
theorem dL_act_16 : decode cL_act 16 = .ok (.ishr, 1) := by decide +kernel
theorem dL_act_17 : decode cL_act 17 = .ok (.iload_n 3, 1) := by decide +kernel
theorem dL_act_18 : decode cL_act 18 = .ok (.invokestatic 15, 3) := by decide +kernel
theorem dL_act_21 : decode cL_act 21 = .ok (.istore 4, 2) := by decide +kernel
theorem dL_act_23 : decode cL_act 23 = .ok (.aload_n 1, 1) := by decide +kernel
theorem dL_act_24 : decode cL_act 24 = .ok (.getfield 21, 3) := by decide +kernel
theorem dL_act_27 : decode cL_act 27 = .ok (.arraylength, 1) := by decide +kernel
theorem dL_act_28 : decode cL_act 28 = .ok (.ifCond .ne 7, 3) := by decide +kernel
theorem dL_act_31 : decode cL_act 31 = .ok (.iconst 0, 1) := by decide +kernel
theorem dL_act_32 : decode cL_act 32 = .ok (.goto 14, 3) := by decide +kernel
theorem dL_act_35 : decode cL_act 35 = .ok (.iload_n 2, 1) := by decide +kernel
theorem dL_act_36 : decode cL_act 36 = .ok (.iconst 4, 1) := by decide +kernel
theorem dL_act_37 : decode cL_act 37 = .ok (.ishr, 1) := by decide +kernel
theorem dL_act_38 : decode cL_act 38 = .ok (.aload_n 1, 1) := by decide +kernel
theorem dL_act_39 : decode cL_act 39 = .ok (.getfield 21, 3) := by decide +kernel
theorem dL_act_42 : decode cL_act 42 = .ok (.arraylength, 1) := by decide +kernel
theorem dL_act_43 : decode cL_act 43 = .ok (.invokestatic 15, 3) := by decide +kernel
theorem dL_act_46 : decode cL_act 46 = .ok (.istore 5, 2) := by decide +kernel
theorem dL_act_48 : decode cL_act 48 = .ok (.iload_n 2, 1) := by decide +kernel
theorem dL_act_49 : decode cL_act 49 = .ok (.bipush 14, 2) := by decide +kernel
theorem dL_act_51 : decode cL_act 51 = .ok (.invokestatic 15, 3) := by decide +kernel
theorem dL_act_54 : decode cL_act 54 = .ok (.istore 6, 2) := by decide +kernel
theorem dL_act_56 : decode cL_act 56 = .ok (.iconst 1, 1) := by decide +kernel
theorem dL_act_57 : decode cL_act 57 = .ok (.istore 7, 2) := by decide +kernel
theorem dL_act_59 : decode cL_act 59 = .ok (.iload_n 3, 1) := by decide +kernel
theorem dL_act_60 : decode cL_act 60 = .ok (.ifCond .eq 9, 3) := by decide +kernel
theorem dL_act_63 : decode cL_act 63 = .ok (.iload 6, 2) := by decide +kernel
theorem dL_act_65 : decode cL_act 65 = .ok (.iconst 2, 1) := by decide +kernel
theorem dL_act_66 : decode cL_act 66 = .ok (.if_icmp .ge 103, 3) := by decide +kernel
theorem dL_act_69 : decode cL_act 69 = .ok (.iload_n 2, 1) := by decide +kernel
theorem dL_act_70 : decode cL_act 70 = .ok (.iconst 4, 1) := by decide +kernel
theorem dL_act_71 : decode cL_act 71 = .ok (.ishr, 1) := by decide +kernel
theorem dL_act_72 : decode cL_act 72 = .ok (.bipush 21, 2) := by decide +kernel
theorem dL_act_74 : decode cL_act 74 = .ok (.invokestatic 15, 3) := by decide +kernel
theorem dL_act_77 : decode cL_act 77 = .ok (.istore 8, 2) := by decide +kernel
theorem dL_act_79 : decode cL_act 79 = .ok (.iload 8, 2) := by decide +kernel
theorem dL_act_81 : decode cL_act 81 = .ok (.iload_n 2, 1) := by decide +kernel
theorem dL_act_82 : decode cL_act 82 = .ok (.bipush 6, 2) := by decide +kernel
theorem dL_act_84 : decode cL_act 84 = .ok (.ishr, 1) := by decide +kernel
theorem dL_act_85 : decode cL_act 85 = .ok (.bipush 21, 2) := by decide +kernel
theorem dL_act_87 : decode cL_act 87 = .ok (.iload 8, 2) := by decide +kernel
theorem dL_act_89 : decode cL_act 89 = .ok (.isub, 1) := by decide +kernel
theorem dL_act_90 : decode cL_act 90 = .ok (.invokestatic 15, 3) := by decide +kernel
theorem dL_act_93 : decode cL_act 93 = .ok (.iadd, 1) := by decide +kernel
theorem dL_act_94 : decode cL_act 94 = .ok (.istore 9, 2) := by decide +kernel
theorem dL_act_96 : decode cL_act 96 = .ok (.iload_n 3, 1) := by decide +kernel
theorem dL_act_97 : decode cL_act 97 = .ok (.bipush 40, 2) := by decide +kernel
theorem dL_act_99 : decode cL_act 99 = .ok (.if_icmp .ge 7, 3) := by decide +kernel
theorem dL_act_102 : decode cL_act 102 = .ok (.iconst 1, 1) := by decide +kernel
theorem dL_act_103 : decode cL_act 103 = .ok (.goto 4, 3) := by decide +kernel
theorem dL_act_106 : decode cL_act 106 = .ok (.iconst 0, 1) := by decide +kernel
theorem dL_act_107 : decode cL_act 107 = .ok (.istore 7, 2) := by decide +kernel
theorem dL_act_109 : decode cL_act 109 = .ok (.iload 7, 2) := by decide +kernel
theorem dL_act_111 : decode cL_act 111 = .ok (.ifCond .eq 35, 3) := by decide +kernel
theorem dL_act_114 : decode cL_act 114 = .ok (.aload_n 1, 1) := by decide +kernel
theorem dL_act_115 : decode cL_act 115 = .ok (.aload_n 1, 1) := by decide +kernel
theorem dL_act_116 : decode cL_act 116 = .ok (.getfield 9, 3) := by decide +kernel
theorem dL_act_119 : decode cL_act 119 = .ok (.iconst 4, 1) := by decide +kernel
theorem dL_act_120 : decode cL_act 120 = .ok (.newarray .int, 2) := by decide +kernel
theorem dL_act_122 : decode cL_act 122 = .ok (.dup, 1) := by decide +kernel
theorem dL_act_123 : decode cL_act 123 = .ok (.iconst 0, 1) := by decide +kernel
theorem dL_act_124 : decode cL_act 124 = .ok (.iconst 0, 1) := by decide +kernel
theorem dL_act_125 : decode cL_act 125 = .ok (.iastore, 1) := by decide +kernel
theorem dL_act_126 : decode cL_act 126 = .ok (.dup, 1) := by decide +kernel
theorem dL_act_127 : decode cL_act 127 = .ok (.iconst 1, 1) := by decide +kernel
theorem dL_act_128 : decode cL_act 128 = .ok (.iload 8, 2) := by decide +kernel
theorem dL_act_130 : decode cL_act 130 = .ok (.iastore, 1) := by decide +kernel
theorem dL_act_131 : decode cL_act 131 = .ok (.dup, 1) := by decide +kernel
theorem dL_act_132 : decode cL_act 132 = .ok (.iconst 2, 1) := by decide +kernel
theorem dL_act_133 : decode cL_act 133 = .ok (.iload 9, 2) := by decide +kernel
theorem dL_act_135 : decode cL_act 135 = .ok (.iastore, 1) := by decide +kernel
theorem dL_act_136 : decode cL_act 136 = .ok (.dup, 1) := by decide +kernel
theorem dL_act_137 : decode cL_act 137 = .ok (.iconst 3, 1) := by decide +kernel
theorem dL_act_138 : decode cL_act 138 = .ok (.iconst (-1), 1) := by decide +kernel
theorem dL_act_139 : decode cL_act 139 = .ok (.iastore, 1) := by decide +kernel
theorem dL_act_140 : decode cL_act 140 = .ok (.invokestatic 24, 3) := by decide +kernel
theorem dL_act_143 : decode cL_act 143 = .ok (.putfield 9, 3) := by decide +kernel
theorem dL_act_146 : decode cL_act 146 = .ok (.aload_n 0, 1) := by decide +kernel
theorem dL_act_147 : decode cL_act 147 = .ok (.iload 8, 2) := by decide +kernel
theorem dL_act_149 : decode cL_act 149 = .ok (.iload 9, 2) := by decide +kernel
theorem dL_act_151 : decode cL_act 151 = .ok (.invokevirtual 28, 3) := by decide +kernel
theorem dL_act_154 : decode cL_act 154 = .ok (.iload_n 3, 1) := by decide +kernel
theorem dL_act_155 : decode cL_act 155 = .ok (.if_icmp .ne 12, 3) := by decide +kernel
theorem dL_act_158 : decode cL_act 158 = .ok (.iload 7, 2) := by decide +kernel
theorem dL_act_160 : decode cL_act 160 = .ok (.ifCond .eq 7, 3) := by decide +kernel
theorem dL_act_163 : decode cL_act 163 = .ok (.iconst 1, 1) := by decide +kernel
theorem dL_act_164 : decode cL_act 164 = .ok (.goto 4, 3) := by decide +kernel
theorem dL_act_167 : decode cL_act 167 = .ok (.iconst 0, 1) := by decide +kernel
theorem dL_act_168 : decode cL_act 168 = .ok (.ireturn, 1) := by decide +kernel
theorem dL_act_169 : decode cL_act 169 = .ok (.iload 6, 2) := by decide +kernel
theorem dL_act_171 : decode cL_act 171 = .ok (.iconst 5, 1) := by decide +kernel
theorem dL_act_172 : decode cL_act 172 = .ok (.if_icmp .ge 120, 3) := by decide +kernel
theorem dL_act_175 : decode cL_act 175 = .ok (.iconst 4, 1) := by decide +kernel
theorem dL_act_176 : decode cL_act 176 = .ok (.newarray .int, 2) := by decide +kernel
theorem dL_act_178 : decode cL_act 178 = .ok (.dup, 1) := by decide +kernel
theorem dL_act_179 : decode cL_act 179 = .ok (.iconst 0, 1) := by decide +kernel
theorem dL_act_180 : decode cL_act 180 = .ok (.iconst 1, 1) := by decide +kernel
theorem dL_act_181 : decode cL_act 181 = .ok (.iastore, 1) := by decide +kernel
theorem dL_act_182 : decode cL_act 182 = .ok (.dup, 1) := by decide +kernel
theorem dL_act_183 : decode cL_act 183 = .ok (.iconst 1, 1) := by decide +kernel
theorem dL_act_184 : decode cL_act 184 = .ok (.iload 4, 2) := by decide +kernel
theorem dL_act_186 : decode cL_act 186 = .ok (.iastore, 1) := by decide +kernel
theorem dL_act_187 : decode cL_act 187 = .ok (.dup, 1) := by decide +kernel
theorem dL_act_188 : decode cL_act 188 = .ok (.iconst 2, 1) := by decide +kernel
theorem dL_act_189 : decode cL_act 189 = .ok (.iload_n 2, 1) := by decide +kernel
theorem dL_act_190 : decode cL_act 190 = .ok (.iconst 5, 1) := by decide +kernel
theorem dL_act_191 : decode cL_act 191 = .ok (.ishr, 1) := by decide +kernel
theorem dL_act_192 : decode cL_act 192 = .ok (.iconst 2, 1) := by decide +kernel
theorem dL_act_193 : decode cL_act 193 = .ok (.invokestatic 15, 3) := by decide +kernel
theorem dL_act_196 : decode cL_act 196 = .ok (.ifCond .ne 9, 3) := by decide +kernel
theorem dL_act_199 : decode cL_act 199 = .ok (.iload_n 3, 1) := by decide +kernel
theorem dL_act_200 : decode cL_act 200 = .ok (.iconst 1, 1) := by decide +kernel
theorem dL_act_201 : decode cL_act 201 = .ok (.isub, 1) := by decide +kernel
theorem dL_act_202 : decode cL_act 202 = .ok (.goto 11, 3) := by decide +kernel
theorem dL_act_205 : decode cL_act 205 = .ok (.iload_n 2, 1) := by decide +kernel
theorem dL_act_206 : decode cL_act 206 = .ok (.bipush 6, 2) := by decide +kernel
theorem dL_act_208 : decode cL_act 208 = .ok (.ishr, 1) := by decide +kernel
theorem dL_act_209 : decode cL_act 209 = .ok (.iload_n 3, 1) := by decide +kernel
theorem dL_act_210 : decode cL_act 210 = .ok (.invokestatic 15, 3) := by decide +kernel
theorem dL_act_213 : decode cL_act 213 = .ok (.iastore, 1) := by decide +kernel
theorem dL_act_214 : decode cL_act 214 = .ok (.dup, 1) := by decide +kernel
theorem dL_act_215 : decode cL_act 215 = .ok (.iconst 3, 1) := by decide +kernel
theorem dL_act_216 : decode cL_act 216 = .ok (.iconst 1, 1) := by decide +kernel
theorem dL_act_217 : decode cL_act 217 = .ok (.iload_n 2, 1) := by decide +kernel
theorem dL_act_218 : decode cL_act 218 = .ok (.bipush 7, 2) := by decide +kernel
theorem dL_act_220 : decode cL_act 220 = .ok (.ishr, 1) := by decide +kernel
theorem dL_act_221 : decode cL_act 221 = .ok (.bipush 9, 2) := by decide +kernel
theorem dL_act_223 : decode cL_act 223 = .ok (.invokestatic 15, 3) := by decide +kernel
theorem dL_act_226 : decode cL_act 226 = .ok (.iadd, 1) := by decide +kernel
theorem dL_act_227 : decode cL_act 227 = .ok (.iastore, 1) := by decide +kernel
theorem dL_act_228 : decode cL_act 228 = .ok (.astore 8, 2) := by decide +kernel
theorem dL_act_230 : decode cL_act 230 = .ok (.iload_n 3, 1) := by decide +kernel
theorem dL_act_231 : decode cL_act 231 = .ok (.bipush 40, 2) := by decide +kernel
theorem dL_act_233 : decode cL_act 233 = .ok (.if_icmp .ge 7, 3) := by decide +kernel
theorem dL_act_236 : decode cL_act 236 = .ok (.iconst 1, 1) := by decide +kernel
theorem dL_act_237 : decode cL_act 237 = .ok (.goto 4, 3) := by decide +kernel
theorem dL_act_240 : decode cL_act 240 = .ok (.iconst 0, 1) := by decide +kernel
theorem dL_act_241 : decode cL_act 241 = .ok (.istore 7, 2) := by decide +kernel
theorem dL_act_243 : decode cL_act 243 = .ok (.iload 7, 2) := by decide +kernel
theorem dL_act_245 : decode cL_act 245 = .ok (.ifCond .eq 16, 3) := by decide +kernel
theorem dL_act_248 : decode cL_act 248 = .ok (.aload_n 1, 1) := by decide +kernel
theorem dL_act_249 : decode cL_act 249 = .ok (.aload_n 1, 1) := by decide +kernel
theorem dL_act_250 : decode cL_act 250 = .ok (.getfield 9, 3) := by decide +kernel
theorem dL_act_253 : decode cL_act 253 = .ok (.aload 8, 2) := by decide +kernel
theorem dL_act_255 : decode cL_act 255 = .ok (.invokestatic 24, 3) := by decide +kernel
theorem dL_act_258 : decode cL_act 258 = .ok (.putfield 9, 3) := by decide +kernel
theorem dL_act_261 : decode cL_act 261 = .ok (.aload_n 0, 1) := by decide +kernel
theorem dL_act_262 : decode cL_act 262 = .ok (.aload 8, 2) := by decide +kernel
theorem dL_act_264 : decode cL_act 264 = .ok (.iconst 1, 1) := by decide +kernel
theorem dL_act_265 : decode cL_act 265 = .ok (.iaload, 1) := by decide +kernel
theorem dL_act_266 : decode cL_act 266 = .ok (.aload 8, 2) := by decide +kernel
theorem dL_act_268 : decode cL_act 268 = .ok (.iconst 2, 1) := by decide +kernel
theorem dL_act_269 : decode cL_act 269 = .ok (.iaload, 1) := by decide +kernel
theorem dL_act_270 : decode cL_act 270 = .ok (.aload 8, 2) := by decide +kernel
theorem dL_act_272 : decode cL_act 272 = .ok (.iconst 3, 1) := by decide +kernel
theorem dL_act_273 : decode cL_act 273 = .ok (.iaload, 1) := by decide +kernel
theorem dL_act_274 : decode cL_act 274 = .ok (.invokevirtual 33, 3) := by decide +kernel
theorem dL_act_277 : decode cL_act 277 = .ok (.iload_n 3, 1) := by decide +kernel
theorem dL_act_278 : decode cL_act 278 = .ok (.if_icmp .ne 12, 3) := by decide +kernel
theorem dL_act_281 : decode cL_act 281 = .ok (.iload 7, 2) := by decide +kernel
theorem dL_act_283 : decode cL_act 283 = .ok (.ifCond .eq 7, 3) := by decide +kernel
theorem dL_act_286 : decode cL_act 286 = .ok (.iconst 1, 1) := by decide +kernel
theorem dL_act_287 : decode cL_act 287 = .ok (.goto 4, 3) := by decide +kernel
theorem dL_act_290 : decode cL_act 290 = .ok (.iconst 0, 1) := by decide +kernel
theorem dL_act_291 : decode cL_act 291 = .ok (.ireturn, 1) := by decide +kernel
theorem dL_act_292 : decode cL_act 292 = .ok (.iload 6, 2) := by decide +kernel
theorem dL_act_294 : decode cL_act 294 = .ok (.bipush 7, 2) := by decide +kernel
theorem dL_act_296 : decode cL_act 296 = .ok (.if_icmp .ge 96, 3) := by decide +kernel
theorem dL_act_299 : decode cL_act 299 = .ok (.aload_n 1, 1) := by decide +kernel
theorem dL_act_300 : decode cL_act 300 = .ok (.iload 4, 2) := by decide +kernel
theorem dL_act_302 : decode cL_act 302 = .ok (.invokevirtual 37, 3) := by decide +kernel
theorem dL_act_305 : decode cL_act 305 = .ok (.ifCond .ne 87, 3) := by decide +kernel
theorem dL_act_308 : decode cL_act 308 = .ok (.aload_n 1, 1) := by decide +kernel
theorem dL_act_309 : decode cL_act 309 = .ok (.getfield 9, 3) := by decide +kernel
theorem dL_act_312 : decode cL_act 312 = .ok (.iload 4, 2) := by decide +kernel
theorem dL_act_314 : decode cL_act 314 = .ok (.aaload, 1) := by decide +kernel
theorem dL_act_315 : decode cL_act 315 = .ok (.astore 8, 2) := by decide +kernel
theorem dL_act_317 : decode cL_act 317 = .ok (.aload 8, 2) := by decide +kernel
theorem dL_act_319 : decode cL_act 319 = .ok (.iconst 1, 1) := by decide +kernel
theorem dL_act_320 : decode cL_act 320 = .ok (.iaload, 1) := by decide +kernel
theorem dL_act_321 : decode cL_act 321 = .ok (.iload_n 2, 1) := by decide +kernel
theorem dL_act_322 : decode cL_act 322 = .ok (.iconst 5, 1) := by decide +kernel
theorem dL_act_323 : decode cL_act 323 = .ok (.ishr, 1) := by decide +kernel
theorem dL_act_324 : decode cL_act 324 = .ok (.aload 8, 2) := by decide +kernel
theorem dL_act_326 : decode cL_act 326 = .ok (.iconst 2, 1) := by decide +kernel
theorem dL_act_327 : decode cL_act 327 = .ok (.iaload, 1) := by decide +kernel
theorem dL_act_328 : decode cL_act 328 = .ok (.aload 8, 2) := by decide +kernel
theorem dL_act_330 : decode cL_act 330 = .ok (.iconst 1, 1) := by decide +kernel
theorem dL_act_331 : decode cL_act 331 = .ok (.iaload, 1) := by decide +kernel
theorem dL_act_332 : decode cL_act 332 = .ok (.isub, 1) := by decide +kernel
theorem dL_act_333 : decode cL_act 333 = .ok (.iconst 1, 1) := by decide +kernel
theorem dL_act_334 : decode cL_act 334 = .ok (.iadd, 1) := by decide +kernel
theorem dL_act_335 : decode cL_act 335 = .ok (.invokestatic 15, 3) := by decide +kernel
theorem dL_act_338 : decode cL_act 338 = .ok (.iadd, 1) := by decide +kernel
theorem dL_act_339 : decode cL_act 339 = .ok (.istore 9, 2) := by decide +kernel
theorem dL_act_341 : decode cL_act 341 = .ok (.aload 8, 2) := by decide +kernel
theorem dL_act_343 : decode cL_act 343 = .ok (.iconst 3, 1) := by decide +kernel
theorem dL_act_344 : decode cL_act 344 = .ok (.iaload, 1) := by decide +kernel
theorem dL_act_345 : decode cL_act 345 = .ok (.ifCond .ge 7, 3) := by decide +kernel
theorem dL_act_348 : decode cL_act 348 = .ok (.iconst 1, 1) := by decide +kernel
theorem dL_act_349 : decode cL_act 349 = .ok (.goto 4, 3) := by decide +kernel
theorem dL_act_352 : decode cL_act 352 = .ok (.iconst 0, 1) := by decide +kernel
theorem dL_act_353 : decode cL_act 353 = .ok (.istore 7, 2) := by decide +kernel
theorem dL_act_355 : decode cL_act 355 = .ok (.iload 7, 2) := by decide +kernel
theorem dL_act_357 : decode cL_act 357 = .ok (.ifCond .eq 9, 3) := by decide +kernel
theorem dL_act_360 : decode cL_act 360 = .ok (.aload 8, 2) := by decide +kernel
theorem dL_act_362 : decode cL_act 362 = .ok (.iconst 3, 1) := by decide +kernel
theorem dL_act_363 : decode cL_act 363 = .ok (.iload 9, 2) := by decide +kernel
theorem dL_act_365 : decode cL_act 365 = .ok (.iastore, 1) := by decide +kernel
theorem dL_act_366 : decode cL_act 366 = .ok (.aload_n 0, 1) := by decide +kernel
theorem dL_act_367 : decode cL_act 367 = .ok (.iload 4, 2) := by decide +kernel
theorem dL_act_369 : decode cL_act 369 = .ok (.iload 9, 2) := by decide +kernel
theorem dL_act_371 : decode cL_act 371 = .ok (.invokevirtual 41, 3) := by decide +kernel
theorem dL_act_374 : decode cL_act 374 = .ok (.aload_n 1, 1) := by decide +kernel
theorem dL_act_375 : decode cL_act 375 = .ok (.invokevirtual 44, 3) := by decide +kernel
theorem dL_act_378 : decode cL_act 378 = .ok (.if_icmp .ne 12, 3) := by decide +kernel
theorem dL_act_381 : decode cL_act 381 = .ok (.iload 7, 2) := by decide +kernel
theorem dL_act_383 : decode cL_act 383 = .ok (.ifCond .eq 7, 3) := by decide +kernel
theorem dL_act_386 : decode cL_act 386 = .ok (.iconst 1, 1) := by decide +kernel
theorem dL_act_387 : decode cL_act 387 = .ok (.goto 4, 3) := by decide +kernel
theorem dL_act_390 : decode cL_act 390 = .ok (.iconst 0, 1) := by decide +kernel
theorem dL_act_391 : decode cL_act 391 = .ok (.ireturn, 1) := by decide +kernel
theorem dL_act_392 : decode cL_act 392 = .ok (.iload 6, 2) := by decide +kernel
theorem dL_act_394 : decode cL_act 394 = .ok (.bipush 7, 2) := by decide +kernel
theorem dL_act_396 : decode cL_act 396 = .ok (.if_icmp .ne 68, 3) := by decide +kernel
theorem dL_act_399 : decode cL_act 399 = .ok (.aload_n 1, 1) := by decide +kernel
theorem dL_act_400 : decode cL_act 400 = .ok (.iload 4, 2) := by decide +kernel
theorem dL_act_402 : decode cL_act 402 = .ok (.invokevirtual 37, 3) := by decide +kernel
theorem dL_act_405 : decode cL_act 405 = .ok (.ifCond .eq 59, 3) := by decide +kernel
theorem dL_act_408 : decode cL_act 408 = .ok (.aload_n 1, 1) := by decide +kernel
theorem dL_act_409 : decode cL_act 409 = .ok (.getfield 9, 3) := by decide +kernel
theorem dL_act_412 : decode cL_act 412 = .ok (.iload 4, 2) := by decide +kernel
theorem dL_act_414 : decode cL_act 414 = .ok (.aaload, 1) := by decide +kernel
theorem dL_act_415 : decode cL_act 415 = .ok (.iconst 3, 1) := by decide +kernel
theorem dL_act_416 : decode cL_act 416 = .ok (.iaload, 1) := by decide +kernel
theorem dL_act_417 : decode cL_act 417 = .ok (.istore 8, 2) := by decide +kernel
theorem dL_act_419 : decode cL_act 419 = .ok (.aload_n 1, 1) := by decide +kernel
theorem dL_act_420 : decode cL_act 420 = .ok (.getfield 9, 3) := by decide +kernel
theorem dL_act_423 : decode cL_act 423 = .ok (.iload 4, 2) := by decide +kernel
theorem dL_act_425 : decode cL_act 425 = .ok (.aaload, 1) := by decide +kernel
theorem dL_act_426 : decode cL_act 426 = .ok (.iconst 3, 1) := by decide +kernel
theorem dL_act_427 : decode cL_act 427 = .ok (.iconst 1, 1) := by decide +kernel
theorem dL_act_428 : decode cL_act 428 = .ok (.iload_n 2, 1) := by decide +kernel
theorem dL_act_429 : decode cL_act 429 = .ok (.iconst 5, 1) := by decide +kernel
theorem dL_act_430 : decode cL_act 430 = .ok (.ishr, 1) := by decide +kernel
theorem dL_act_431 : decode cL_act 431 = .ok (.bipush 9, 2) := by decide +kernel
theorem dL_act_433 : decode cL_act 433 = .ok (.invokestatic 15, 3) := by decide +kernel
theorem dL_act_436 : decode cL_act 436 = .ok (.iadd, 1) := by decide +kernel
theorem dL_act_437 : decode cL_act 437 = .ok (.iastore, 1) := by decide +kernel
theorem dL_act_438 : decode cL_act 438 = .ok (.aload_n 0, 1) := by decide +kernel
theorem dL_act_439 : decode cL_act 439 = .ok (.iload 4, 2) := by decide +kernel
theorem dL_act_441 : decode cL_act 441 = .ok (.aload_n 1, 1) := by decide +kernel
theorem dL_act_442 : decode cL_act 442 = .ok (.getfield 9, 3) := by decide +kernel
theorem dL_act_445 : decode cL_act 445 = .ok (.iload 4, 2) := by decide +kernel
theorem dL_act_447 : decode cL_act 447 = .ok (.aaload, 1) := by decide +kernel
theorem dL_act_448 : decode cL_act 448 = .ok (.iconst 3, 1) := by decide +kernel
theorem dL_act_449 : decode cL_act 449 = .ok (.iaload, 1) := by decide +kernel
theorem dL_act_450 : decode cL_act 450 = .ok (.invokevirtual 48, 3) := by decide +kernel
theorem dL_act_453 : decode cL_act 453 = .ok (.iload 8, 2) := by decide +kernel
theorem dL_act_455 : decode cL_act 455 = .ok (.if_icmp .ne 7, 3) := by decide +kernel
theorem dL_act_458 : decode cL_act 458 = .ok (.iconst 1, 1) := by decide +kernel
theorem dL_act_459 : decode cL_act 459 = .ok (.goto 4, 3) := by decide +kernel
theorem dL_act_462 : decode cL_act 462 = .ok (.iconst 0, 1) := by decide +kernel
theorem dL_act_463 : decode cL_act 463 = .ok (.ireturn, 1) := by decide +kernel
theorem dL_act_464 : decode cL_act 464 = .ok (.aload_n 1, 1) := by decide +kernel
theorem dL_act_465 : decode cL_act 465 = .ok (.getfield 21, 3) := by decide +kernel
theorem dL_act_468 : decode cL_act 468 = .ok (.arraylength, 1) := by decide +kernel
theorem dL_act_469 : decode cL_act 469 = .ok (.ifCond .eq 10, 3) := by decide +kernel
theorem dL_act_472 : decode cL_act 472 = .ok (.iload 6, 2) := by decide +kernel
theorem dL_act_474 : decode cL_act 474 = .ok (.bipush 8, 2) := by decide +kernel
theorem dL_act_476 : decode cL_act 476 = .ok (.if_icmp .ne 91, 3) := by decide +kernel
theorem dL_act_479 : decode cL_act 479 = .ok (.iload_n 2, 1) := by decide +kernel
theorem dL_act_480 : decode cL_act 480 = .ok (.iconst 5, 1) := by decide +kernel
theorem dL_act_481 : decode cL_act 481 = .ok (.ishr, 1) := by decide +kernel
theorem dL_act_482 : decode cL_act 482 = .ok (.iconst 2, 1) := by decide +kernel
theorem dL_act_483 : decode cL_act 483 = .ok (.invokestatic 15, 3) := by decide +kernel
theorem dL_act_486 : decode cL_act 486 = .ok (.ifCond .ne 9, 3) := by decide +kernel
theorem dL_act_489 : decode cL_act 489 = .ok (.iload_n 3, 1) := by decide +kernel
theorem dL_act_490 : decode cL_act 490 = .ok (.iconst 1, 1) := by decide +kernel
theorem dL_act_491 : decode cL_act 491 = .ok (.isub, 1) := by decide +kernel
theorem dL_act_492 : decode cL_act 492 = .ok (.goto 5, 3) := by decide +kernel
theorem dL_act_495 : decode cL_act 495 = .ok (.iload 4, 2) := by decide +kernel
theorem dL_act_497 : decode cL_act 497 = .ok (.istore 8, 2) := by decide +kernel
theorem dL_act_499 : decode cL_act 499 = .ok (.aload_n 1, 1) := by decide +kernel
theorem dL_act_500 : decode cL_act 500 = .ok (.getfield 21, 3) := by decide +kernel
theorem dL_act_503 : decode cL_act 503 = .ok (.arraylength, 1) := by decide +kernel
theorem dL_act_504 : decode cL_act 504 = .ok (.bipush 8, 2) := by decide +kernel
theorem dL_act_506 : decode cL_act 506 = .ok (.if_icmp .ge 7, 3) := by decide +kernel
theorem dL_act_509 : decode cL_act 509 = .ok (.iconst 1, 1) := by decide +kernel
theorem dL_act_510 : decode cL_act 510 = .ok (.goto 4, 3) := by decide +kernel
theorem dL_act_513 : decode cL_act 513 = .ok (.iconst 0, 1) := by decide +kernel
theorem dL_act_514 : decode cL_act 514 = .ok (.istore 7, 2) := by decide +kernel
theorem dL_act_516 : decode cL_act 516 = .ok (.iload 7, 2) := by decide +kernel
theorem dL_act_518 : decode cL_act 518 = .ok (.ifCond .eq 22, 3) := by decide +kernel
theorem dL_act_521 : decode cL_act 521 = .ok (.aload_n 1, 1) := by decide +kernel
theorem dL_act_522 : decode cL_act 522 = .ok (.aload_n 1, 1) := by decide +kernel
theorem dL_act_523 : decode cL_act 523 = .ok (.getfield 21, 3) := by decide +kernel
theorem dL_act_526 : decode cL_act 526 = .ok (.iconst 1, 1) := by decide +kernel
theorem dL_act_527 : decode cL_act 527 = .ok (.newarray .int, 2) := by decide +kernel
theorem dL_act_529 : decode cL_act 529 = .ok (.dup, 1) := by decide +kernel
theorem dL_act_530 : decode cL_act 530 = .ok (.iconst 0, 1) := by decide +kernel
theorem dL_act_531 : decode cL_act 531 = .ok (.iload 8, 2) := by decide +kernel
theorem dL_act_533 : decode cL_act 533 = .ok (.iastore, 1) := by decide +kernel
theorem dL_act_534 : decode cL_act 534 = .ok (.invokestatic 24, 3) := by decide +kernel
theorem dL_act_537 : decode cL_act 537 = .ok (.putfield 21, 3) := by decide +kernel
theorem dL_act_540 : decode cL_act 540 = .ok (.aload_n 0, 1) := by decide +kernel
theorem dL_act_541 : decode cL_act 541 = .ok (.iload 8, 2) := by decide +kernel
theorem dL_act_543 : decode cL_act 543 = .ok (.invokevirtual 51, 3) := by decide +kernel
theorem dL_act_546 : decode cL_act 546 = .ok (.aload_n 1, 1) := by decide +kernel
theorem dL_act_547 : decode cL_act 547 = .ok (.getfield 21, 3) := by decide +kernel
theorem dL_act_550 : decode cL_act 550 = .ok (.arraylength, 1) := by decide +kernel
theorem dL_act_551 : decode cL_act 551 = .ok (.iconst 1, 1) := by decide +kernel
theorem dL_act_552 : decode cL_act 552 = .ok (.isub, 1) := by decide +kernel
theorem dL_act_553 : decode cL_act 553 = .ok (.if_icmp .ne 12, 3) := by decide +kernel
theorem dL_act_556 : decode cL_act 556 = .ok (.iload 7, 2) := by decide +kernel
theorem dL_act_558 : decode cL_act 558 = .ok (.ifCond .eq 7, 3) := by decide +kernel
theorem dL_act_561 : decode cL_act 561 = .ok (.iconst 1, 1) := by decide +kernel
theorem dL_act_562 : decode cL_act 562 = .ok (.goto 4, 3) := by decide +kernel
theorem dL_act_565 : decode cL_act 565 = .ok (.iconst 0, 1) := by decide +kernel
theorem dL_act_566 : decode cL_act 566 = .ok (.ireturn, 1) := by decide +kernel
theorem dL_act_567 : decode cL_act 567 = .ok (.aload_n 1, 1) := by decide +kernel
theorem dL_act_568 : decode cL_act 568 = .ok (.iload 5, 2) := by decide +kernel
theorem dL_act_570 : decode cL_act 570 = .ok (.invokevirtual 55, 3) := by decide +kernel
theorem dL_act_573 : decode cL_act 573 = .ok (.istore 8, 2) := by decide +kernel
theorem dL_act_575 : decode cL_act 575 = .ok (.iload 6, 2) := by decide +kernel
theorem dL_act_577 : decode cL_act 577 = .ok (.tableswitch 195 9 12 #[31, 31, 31, 124], 31) := by decide +kernel
theorem dL_act_608 : decode cL_act 608 = .ok (.iload_n 2, 1) := by decide +kernel
theorem dL_act_609 : decode cL_act 609 = .ok (.iconst 5, 1) := by decide +kernel
theorem dL_act_610 : decode cL_act 610 = .ok (.ishr, 1) := by decide +kernel
theorem dL_act_611 : decode cL_act 611 = .ok (.iconst 2, 1) := by decide +kernel
theorem dL_act_612 : decode cL_act 612 = .ok (.invokestatic 15, 3) := by decide +kernel
theorem dL_act_615 : decode cL_act 615 = .ok (.ifCond .ne 7, 3) := by decide +kernel
theorem dL_act_618 : decode cL_act 618 = .ok (.iconst 1, 1) := by decide +kernel
theorem dL_act_619 : decode cL_act 619 = .ok (.goto 4, 3) := by decide +kernel
theorem dL_act_622 : decode cL_act 622 = .ok (.iconst 0, 1) := by decide +kernel
theorem dL_act_623 : decode cL_act 623 = .ok (.istore 9, 2) := by decide +kernel
theorem dL_act_625 : decode cL_act 625 = .ok (.aload_n 1, 1) := by decide +kernel
theorem dL_act_626 : decode cL_act 626 = .ok (.iload 8, 2) := by decide +kernel
theorem dL_act_628 : decode cL_act 628 = .ok (.invokevirtual 37, 3) := by decide +kernel
theorem dL_act_631 : decode cL_act 631 = .ok (.istore 7, 2) := by decide +kernel
theorem dL_act_633 : decode cL_act 633 = .ok (.iload 7, 2) := by decide +kernel
theorem dL_act_635 : decode cL_act 635 = .ok (.ifCond .eq 38, 3) := by decide +kernel
theorem dL_act_638 : decode cL_act 638 = .ok (.aload_n 1, 1) := by decide +kernel
theorem dL_act_639 : decode cL_act 639 = .ok (.getfield 21, 3) := by decide +kernel
theorem dL_act_642 : decode cL_act 642 = .ok (.iload 5, 2) := by decide +kernel
theorem dL_act_644 : decode cL_act 644 = .ok (.aload_n 1, 1) := by decide +kernel
theorem dL_act_645 : decode cL_act 645 = .ok (.getfield 21, 3) := by decide +kernel
theorem dL_act_648 : decode cL_act 648 = .ok (.iload 5, 2) := by decide +kernel
theorem dL_act_650 : decode cL_act 650 = .ok (.aaload, 1) := by decide +kernel
theorem dL_act_651 : decode cL_act 651 = .ok (.aload_n 1, 1) := by decide +kernel
theorem dL_act_652 : decode cL_act 652 = .ok (.getfield 9, 3) := by decide +kernel
theorem dL_act_655 : decode cL_act 655 = .ok (.iload 8, 2) := by decide +kernel
theorem dL_act_657 : decode cL_act 657 = .ok (.aaload, 1) := by decide +kernel
theorem dL_act_658 : decode cL_act 658 = .ok (.iload 9, 2) := by decide +kernel
theorem dL_act_660 : decode cL_act 660 = .ok (.ifCond .eq 7, 3) := by decide +kernel
theorem dL_act_663 : decode cL_act 663 = .ok (.iconst 2, 1) := by decide +kernel
theorem dL_act_664 : decode cL_act 664 = .ok (.goto 4, 3) := by decide +kernel
theorem dL_act_667 : decode cL_act 667 = .ok (.iconst 1, 1) := by decide +kernel
theorem dL_act_668 : decode cL_act 668 = .ok (.iaload, 1) := by decide +kernel
theorem dL_act_669 : decode cL_act 669 = .ok (.invokestatic 58, 3) := by decide +kernel
theorem dL_act_672 : decode cL_act 672 = .ok (.aastore, 1) := by decide +kernel
theorem dL_act_673 : decode cL_act 673 = .ok (.aload_n 0, 1) := by decide +kernel
theorem dL_act_674 : decode cL_act 674 = .ok (.iload 5, 2) := by decide +kernel
theorem dL_act_676 : decode cL_act 676 = .ok (.iload 9, 2) := by decide +kernel
theorem dL_act_678 : decode cL_act 678 = .ok (.invokevirtual 61, 3) := by decide +kernel
theorem dL_act_681 : decode cL_act 681 = .ok (.aload_n 1, 1) := by decide +kernel
theorem dL_act_682 : decode cL_act 682 = .ok (.iload 5, 2) := by decide +kernel
theorem dL_act_684 : decode cL_act 684 = .ok (.invokevirtual 55, 3) := by decide +kernel
theorem dL_act_687 : decode cL_act 687 = .ok (.if_icmp .ne 12, 3) := by decide +kernel
theorem dL_act_690 : decode cL_act 690 = .ok (.iload 7, 2) := by decide +kernel
theorem dL_act_692 : decode cL_act 692 = .ok (.ifCond .eq 7, 3) := by decide +kernel
theorem dL_act_695 : decode cL_act 695 = .ok (.iconst 1, 1) := by decide +kernel
theorem dL_act_696 : decode cL_act 696 = .ok (.goto 4, 3) := by decide +kernel
theorem dL_act_699 : decode cL_act 699 = .ok (.iconst 0, 1) := by decide +kernel
theorem dL_act_700 : decode cL_act 700 = .ok (.ireturn, 1) := by decide +kernel
theorem dL_act_701 : decode cL_act 701 = .ok (.aload_n 1, 1) := by decide +kernel
theorem dL_act_702 : decode cL_act 702 = .ok (.getfield 21, 3) := by decide +kernel
theorem dL_act_705 : decode cL_act 705 = .ok (.iload 5, 2) := by decide +kernel
theorem dL_act_707 : decode cL_act 707 = .ok (.aaload, 1) := by decide +kernel
theorem dL_act_708 : decode cL_act 708 = .ok (.arraylength, 1) := by decide +kernel
theorem dL_act_709 : decode cL_act 709 = .ok (.istore 9, 2) := by decide +kernel
theorem dL_act_711 : decode cL_act 711 = .ok (.iload 9, 2) := by decide +kernel
theorem dL_act_713 : decode cL_act 713 = .ok (.iconst 1, 1) := by decide +kernel
theorem dL_act_714 : decode cL_act 714 = .ok (.if_icmp .le 7, 3) := by decide +kernel
theorem dL_act_717 : decode cL_act 717 = .ok (.iconst 1, 1) := by decide +kernel
theorem dL_act_718 : decode cL_act 718 = .ok (.goto 4, 3) := by decide +kernel
theorem dL_act_721 : decode cL_act 721 = .ok (.iconst 0, 1) := by decide +kernel
theorem dL_act_722 : decode cL_act 722 = .ok (.istore 7, 2) := by decide +kernel
theorem dL_act_724 : decode cL_act 724 = .ok (.iload 7, 2) := by decide +kernel
theorem dL_act_726 : decode cL_act 726 = .ok (.ifCond .eq 20, 3) := by decide +kernel
theorem dL_act_729 : decode cL_act 729 = .ok (.aload_n 1, 1) := by decide +kernel
theorem dL_act_730 : decode cL_act 730 = .ok (.getfield 21, 3) := by decide +kernel
theorem dL_act_733 : decode cL_act 733 = .ok (.iload 5, 2) := by decide +kernel
theorem dL_act_735 : decode cL_act 735 = .ok (.aload_n 1, 1) := by decide +kernel
theorem dL_act_736 : decode cL_act 736 = .ok (.getfield 21, 3) := by decide +kernel
theorem dL_act_739 : decode cL_act 739 = .ok (.iload 5, 2) := by decide +kernel
theorem dL_act_741 : decode cL_act 741 = .ok (.aaload, 1) := by decide +kernel
theorem dL_act_742 : decode cL_act 742 = .ok (.invokestatic 65, 3) := by decide +kernel
theorem dL_act_745 : decode cL_act 745 = .ok (.aastore, 1) := by decide +kernel
theorem dL_act_746 : decode cL_act 746 = .ok (.aload_n 0, 1) := by decide +kernel
theorem dL_act_747 : decode cL_act 747 = .ok (.iload 5, 2) := by decide +kernel
theorem dL_act_749 : decode cL_act 749 = .ok (.invokevirtual 69, 3) := by decide +kernel
theorem dL_act_752 : decode cL_act 752 = .ok (.aload_n 1, 1) := by decide +kernel
theorem dL_act_753 : decode cL_act 753 = .ok (.iload 5, 2) := by decide +kernel
theorem dL_act_755 : decode cL_act 755 = .ok (.invokevirtual 55, 3) := by decide +kernel
theorem dL_act_758 : decode cL_act 758 = .ok (.if_icmp .ne 12, 3) := by decide +kernel
theorem dL_act_761 : decode cL_act 761 = .ok (.iload 7, 2) := by decide +kernel
theorem dL_act_763 : decode cL_act 763 = .ok (.ifCond .eq 7, 3) := by decide +kernel
theorem dL_act_766 : decode cL_act 766 = .ok (.iconst 1, 1) := by decide +kernel
theorem dL_act_767 : decode cL_act 767 = .ok (.goto 4, 3) := by decide +kernel
theorem dL_act_770 : decode cL_act 770 = .ok (.iconst 0, 1) := by decide +kernel
theorem dL_act_771 : decode cL_act 771 = .ok (.ireturn, 1) := by decide +kernel
theorem dL_act_772 : decode cL_act 772 = .ok (.iconst 0, 1) := by decide +kernel
theorem dL_act_773 : decode cL_act 773 = .ok (.istore 9, 2) := by decide +kernel
theorem dL_act_775 : decode cL_act 775 = .ok (.aload_n 1, 1) := by decide +kernel
theorem dL_act_776 : decode cL_act 776 = .ok (.aload_n 1, 1) := by decide +kernel
theorem dL_act_777 : decode cL_act 777 = .ok (.iload 5, 2) := by decide +kernel
theorem dL_act_779 : decode cL_act 779 = .ok (.invokevirtual 55, 3) := by decide +kernel
theorem dL_act_782 : decode cL_act 782 = .ok (.invokevirtual 37, 3) := by decide +kernel
theorem dL_act_785 : decode cL_act 785 = .ok (.ifCond .eq 36, 3) := by decide +kernel
theorem dL_act_788 : decode cL_act 788 = .ok (.aload_n 1, 1) := by decide +kernel
theorem dL_act_789 : decode cL_act 789 = .ok (.getfield 21, 3) := by decide +kernel
theorem dL_act_792 : decode cL_act 792 = .ok (.iload 5, 2) := by decide +kernel
theorem dL_act_794 : decode cL_act 794 = .ok (.aload_n 1, 1) := by decide +kernel
theorem dL_act_795 : decode cL_act 795 = .ok (.getfield 21, 3) := by decide +kernel
theorem dL_act_798 : decode cL_act 798 = .ok (.iload 5, 2) := by decide +kernel
theorem dL_act_800 : decode cL_act 800 = .ok (.aaload, 1) := by decide +kernel
theorem dL_act_801 : decode cL_act 801 = .ok (.aload_n 1, 1) := by decide +kernel
theorem dL_act_802 : decode cL_act 802 = .ok (.aload_n 1, 1) := by decide +kernel
theorem dL_act_803 : decode cL_act 803 = .ok (.iload 5, 2) := by decide +kernel
theorem dL_act_805 : decode cL_act 805 = .ok (.invokevirtual 55, 3) := by decide +kernel
theorem dL_act_808 : decode cL_act 808 = .ok (.invokevirtual 72, 3) := by decide +kernel
theorem dL_act_811 : decode cL_act 811 = .ok (.invokestatic 58, 3) := by decide +kernel
theorem dL_act_814 : decode cL_act 814 = .ok (.aastore, 1) := by decide +kernel
theorem dL_act_815 : decode cL_act 815 = .ok (.iinc 9 1, 3) := by decide +kernel
theorem dL_act_818 : decode cL_act 818 = .ok (.goto (-43), 3) := by decide +kernel
theorem dL_act_821 : decode cL_act 821 = .ok (.aload_n 0, 1) := by decide +kernel
theorem dL_act_822 : decode cL_act 822 = .ok (.iload 5, 2) := by decide +kernel
theorem dL_act_824 : decode cL_act 824 = .ok (.invokevirtual 75, 3) := by decide +kernel
theorem dL_act_827 : decode cL_act 827 = .ok (.iload 9, 2) := by decide +kernel
theorem dL_act_829 : decode cL_act 829 = .ok (.if_icmp .ne 7, 3) := by decide +kernel
theorem dL_act_832 : decode cL_act 832 = .ok (.iconst 1, 1) := by decide +kernel
theorem dL_act_833 : decode cL_act 833 = .ok (.goto 4, 3) := by decide +kernel
theorem dL_act_836 : decode cL_act 836 = .ok (.iconst 0, 1) := by decide +kernel
theorem dL_act_837 : decode cL_act 837 = .ok (.ireturn, 1) := by decide +kernel
theorem dL_act_838 : decode cL_act 838 = .ok (.astore 8, 2) := by decide +kernel
theorem dL_act_840 : decode cL_act 840 = .ok (.iload 7, 2) := by decide +kernel
theorem dL_act_842 : decode cL_act 842 = .ok (.ifCond .ne 7, 3) := by decide +kernel
theorem dL_act_845 : decode cL_act 845 = .ok (.iconst 1, 1) := by decide +kernel
theorem dL_act_846 : decode cL_act 846 = .ok (.goto 4, 3) := by decide +kernel
theorem dL_act_849 : decode cL_act 849 = .ok (.iconst 0, 1) := by decide +kernel
theorem dL_act_850 : decode cL_act 850 = .ok (.ireturn, 1) := by decide +kernel
theorem dL_less_0 : decode cL_less 0 = .ok (.aload_n 0, 1) := by decide +kernel
theorem dL_less_1 : decode cL_less 1 = .ok (.arraylength, 1) := by decide +kernel
theorem dL_less_2 : decode cL_less 2 = .ok (.iconst 1, 1) := by decide +kernel
theorem dL_less_3 : decode cL_less 3 = .ok (.isub, 1) := by decide +kernel
theorem dL_less_4 : decode cL_less 4 = .ok (.newarray .int, 2) := by decide +kernel
theorem dL_less_6 : decode cL_less 6 = .ok (.astore_n 1, 1) := by decide +kernel
theorem dL_less_7 : decode cL_less 7 = .ok (.iconst 0, 1) := by decide +kernel
theorem dL_less_8 : decode cL_less 8 = .ok (.istore_n 2, 1) := by decide +kernel
theorem dL_less_9 : decode cL_less 9 = .ok (.iload_n 2, 1) := by decide +kernel
theorem dL_less_10 : decode cL_less 10 = .ok (.aload_n 1, 1) := by decide +kernel
theorem dL_less_11 : decode cL_less 11 = .ok (.arraylength, 1) := by decide +kernel
theorem dL_less_12 : decode cL_less 12 = .ok (.if_icmp .ge 15, 3) := by decide +kernel
theorem dL_less_15 : decode cL_less 15 = .ok (.aload_n 1, 1) := by decide +kernel
theorem dL_less_16 : decode cL_less 16 = .ok (.iload_n 2, 1) := by decide +kernel
theorem dL_less_17 : decode cL_less 17 = .ok (.aload_n 0, 1) := by decide +kernel
theorem dL_less_18 : decode cL_less 18 = .ok (.iload_n 2, 1) := by decide +kernel
theorem dL_less_19 : decode cL_less 19 = .ok (.iaload, 1) := by decide +kernel
theorem dL_less_20 : decode cL_less 20 = .ok (.iastore, 1) := by decide +kernel
theorem dL_less_21 : decode cL_less 21 = .ok (.iinc 2 1, 3) := by decide +kernel
theorem dL_less_24 : decode cL_less 24 = .ok (.goto (-15), 3) := by decide +kernel
theorem dL_less_27 : decode cL_less 27 = .ok (.aload_n 1, 1) := by decide +kernel
theorem dL_less_28 : decode cL_less 28 = .ok (.areturn, 1) := by decide +kernel
set_option maxRecDepth 20000 in
theorem ggL_build_X1_init : GoodIn wsL_build wsX1_init := goodIn_r _ [5, 6, 7, 8, 9, 10, 11, 214, 215] (by decide +kernel) (by decide +kernel)
set_option maxRecDepth 20000 in
theorem gL_build_X1_init_n80 : GoodIn wsL_build (wsX1_init) := ggL_build_X1_init
set_option maxRecDepth 20000 in
theorem ggL_build_L_cell : GoodIn wsL_build wsL_cell := goodIn_r _ [15, 16] (by decide +kernel) (by decide +kernel)
set_option maxRecDepth 20000 in
theorem gL_build_L_cell : GoodIn wsL_build (va_wsS RL 81 yL_cell wsL_cell) := goodIn_app (goodIn_of _ (by decide +kernel)) ggL_build_L_cell
set_option maxRecDepth 20000 in
theorem ggL_build_L_below : GoodIn wsL_build wsL_below := goodIn_r _ [19, 20] (by decide +kernel) (by decide +kernel)
set_option maxRecDepth 20000 in
theorem gL_build_L_below : GoodIn wsL_build (va_wsS RL 15 yL_below wsL_below) := goodIn_app (goodIn_of _ (by decide +kernel)) ggL_build_L_below
theorem dL_build_0 : decode cL_build 0 = .ok (.new 10, 3) := by decide +kernel
theorem dL_build_3 : decode cL_build 3 = .ok (.dup, 1) := by decide +kernel
theorem dL_build_4 : decode cL_build 4 = .ok (.invokespecial 80, 3) := by decide +kernel
theorem dL_build_7 : decode cL_build 7 = .ok (.astore_n 2, 1) := by decide +kernel
theorem dL_build_8 : decode cL_build 8 = .ok (.bipush 8, 2) := by decide +kernel
theorem dL_build_10 : decode cL_build 10 = .ok (.aload_n 1, 1) := by decide +kernel
theorem dL_build_11 : decode cL_build 11 = .ok (.iconst 0, 1) := by decide +kernel
theorem dL_build_12 : decode cL_build 12 = .ok (.invokestatic 81, 3) := by decide +kernel
theorem dL_build_15 : decode cL_build 15 = .ok (.bipush 22, 2) := by decide +kernel
theorem dL_build_17 : decode cL_build 17 = .ok (.invokestatic 15, 3) := by decide +kernel
theorem dL_build_20 : decode cL_build 20 = .ok (.iadd, 1) := by decide +kernel
theorem dL_build_21 : decode cL_build 21 = .ok (.istore_n 3, 1) := by decide +kernel
theorem dL_build_22 : decode cL_build 22 = .ok (.iconst 0, 1) := by decide +kernel
theorem dL_build_23 : decode cL_build 23 = .ok (.istore 4, 2) := by decide +kernel
theorem dL_build_25 : decode cL_build 25 = .ok (.iload 4, 2) := by decide +kernel
theorem dL_build_27 : decode cL_build 27 = .ok (.iload_n 3, 1) := by decide +kernel
theorem dL_build_28 : decode cL_build 28 = .ok (.if_icmp .ge 44, 3) := by decide +kernel
theorem dL_build_31 : decode cL_build 31 = .ok (.aload_n 0, 1) := by decide +kernel
theorem dL_build_32 : decode cL_build 32 = .ok (.aload_n 2, 1) := by decide +kernel
theorem dL_build_33 : decode cL_build 33 = .ok (.aload_n 1, 1) := by decide +kernel
theorem dL_build_34 : decode cL_build 34 = .ok (.iconst 1, 1) := by decide +kernel
theorem dL_build_35 : decode cL_build 35 = .ok (.iload 4, 2) := by decide +kernel
theorem dL_build_37 : decode cL_build 37 = .ok (.bipush 15, 2) := by decide +kernel
theorem dL_build_39 : decode cL_build 39 = .ok (.irem, 1) := by decide +kernel
theorem dL_build_40 : decode cL_build 40 = .ok (.iadd, 1) := by decide +kernel
theorem dL_build_41 : decode cL_build 41 = .ok (.invokestatic 81, 3) := by decide +kernel
theorem dL_build_44 : decode cL_build 44 = .ok (.iload 4, 2) := by decide +kernel
theorem dL_build_46 : decode cL_build 46 = .ok (.bipush 15, 2) := by decide +kernel
theorem dL_build_48 : decode cL_build 48 = .ok (.idiv, 1) := by decide +kernel
theorem dL_build_49 : decode cL_build 49 = .ok (.iconst 3, 1) := by decide +kernel
theorem dL_build_50 : decode cL_build 50 = .ok (.imul, 1) := by decide +kernel
theorem dL_build_51 : decode cL_build 51 = .ok (.ishr, 1) := by decide +kernel
theorem dL_build_52 : decode cL_build 52 = .ok (.bipush 41, 2) := by decide +kernel
theorem dL_build_54 : decode cL_build 54 = .ok (.iload 4, 2) := by decide +kernel
theorem dL_build_56 : decode cL_build 56 = .ok (.imul, 1) := by decide +kernel
theorem dL_build_57 : decode cL_build 57 = .ok (.iadd, 1) := by decide +kernel
theorem dL_build_58 : decode cL_build 58 = .ok (.invokestatic 85, 3) := by decide +kernel
theorem dL_build_61 : decode cL_build 61 = .ok (.ifCond .ne 5, 3) := by decide +kernel
theorem dL_build_64 : decode cL_build 64 = .ok (.aconst_null, 1) := by decide +kernel
theorem dL_build_65 : decode cL_build 65 = .ok (.areturn, 1) := by decide +kernel
theorem dL_build_66 : decode cL_build 66 = .ok (.iinc 4 1, 3) := by decide +kernel
theorem dL_build_69 : decode cL_build 69 = .ok (.goto (-44), 3) := by decide +kernel
theorem dL_build_72 : decode cL_build 72 = .ok (.aload_n 2, 1) := by decide +kernel
theorem dL_build_73 : decode cL_build 73 = .ok (.areturn, 1) := by decide +kernel

set_option maxRecDepth 20000 in
theorem ggL_addExam_X0_addExam : GoodIn wsL_addExam wsX0_addExam := goodIn_ca (goodIn_ca (goodIn_r _ [7, 8, 9, 10, 11, 12, 13, 14, 15, 16, 17, 18, 6, 19, 20, 21, 22, 23, 24, 25, 26, 27, 28, 29, 30, 31, 32, 33, 34, 35, 36, 37, 38, 39, 40, 41, 42, 43, 44, 45, 46, 47, 48, 49, 50, 51, 52, 53, 54, 55, 56, 57, 58, 59, 60, 61, 62] (by decide +kernel) (by decide +kernel)) (goodIn_sub (fun _ h => List.mem_cons_of_mem _ (List.mem_append_left _ (List.mem_append_right _ h))) (by decide +kernel))) (goodIn_sub (fun _ h => List.mem_cons_of_mem _ (List.mem_append_right _ h)) (by decide +kernel))
set_option maxRecDepth 20000 in
theorem gL_addExam_X0_addExam : GoodIn wsL_addExam (wsV RL 7 RX0 yX0_addExam wsX0_addExam) := goodIn_app (goodIn_of _ (by decide +kernel)) ggL_addExam_X0_addExam
theorem dL_addExam_0 : decode cL_addExam 0 = .ok (.aload_n 3, 1) := by decide +kernel
theorem dL_addExam_1 : decode cL_addExam 1 = .ok (.iconst 0, 1) := by decide +kernel
theorem dL_addExam_2 : decode cL_addExam 2 = .ok (.aload_n 0, 1) := by decide +kernel
theorem dL_addExam_3 : decode cL_addExam 3 = .ok (.iload_n 1, 1) := by decide +kernel
theorem dL_addExam_4 : decode cL_addExam 4 = .ok (.iload_n 2, 1) := by decide +kernel
theorem dL_addExam_5 : decode cL_addExam 5 = .ok (.invokevirtual 7, 3) := by decide +kernel
theorem dL_addExam_8 : decode cL_addExam 8 = .ok (.i2l, 1) := by decide +kernel
theorem dL_addExam_9 : decode cL_addExam 9 = .ok (.lastore, 1) := by decide +kernel
theorem dL_addExam_10 : decode cL_addExam 10 = .ok (.goto 11, 3) := by decide +kernel
theorem dL_addExam_13 : decode cL_addExam 13 = .ok (.astore 4, 2) := by decide +kernel
theorem dL_addExam_15 : decode cL_addExam 15 = .ok (.iconst 1, 1) := by decide +kernel
theorem dL_addExam_16 : decode cL_addExam 16 = .ok (.ireturn, 1) := by decide +kernel
theorem dL_addExam_17 : decode cL_addExam 17 = .ok (.astore 4, 2) := by decide +kernel
theorem dL_addExam_19 : decode cL_addExam 19 = .ok (.iconst 2, 1) := by decide +kernel
theorem dL_addExam_20 : decode cL_addExam 20 = .ok (.ireturn, 1) := by decide +kernel
theorem dL_addExam_21 : decode cL_addExam 21 = .ok (.iconst 0, 1) := by decide +kernel
theorem dL_addExam_22 : decode cL_addExam 22 = .ok (.ireturn, 1) := by decide +kernel
set_option maxRecDepth 20000 in
theorem ggL_addFork_X0_addFork : GoodIn wsL_addFork wsX0_addFork := goodIn_ca (goodIn_ca (goodIn_ca (goodIn_r _ [8, 9, 10, 11, 12, 13, 14, 15, 16, 17, 7, 18, 19, 20, 21, 22, 23, 24, 25, 26, 27, 28, 29, 30, 31, 32, 33, 34, 35, 36, 37, 38, 39, 40, 41, 42, 43, 44, 45, 46, 47, 48, 49, 50, 51, 52, 53, 54, 55, 56, 57, 58, 59, 60, 61, 62, 63, 64, 65, 66, 67, 68, 69, 70, 71, 72, 73, 74, 75, 76, 77, 78, 79] (by decide +kernel) (by decide +kernel)) (goodIn_sub (fun _ h => List.mem_cons_of_mem _ (List.mem_append_left _ (List.mem_append_left _ (List.mem_append_right _ h)))) (by decide +kernel))) (goodIn_sub (fun _ h => List.mem_cons_of_mem _ (List.mem_append_left _ (List.mem_append_right _ h))) (by decide +kernel))) (goodIn_sub (fun _ h => List.mem_cons_of_mem _ (List.mem_append_right _ h)) (by decide +kernel))
set_option maxRecDepth 20000 in
theorem gL_addFork_X0_addFork : GoodIn wsL_addFork (wsV RL 17 RX0 yX0_addFork wsX0_addFork) := goodIn_app (goodIn_of _ (by decide +kernel)) ggL_addFork_X0_addFork
theorem dL_addFork_0 : decode cL_addFork 0 = .ok (.aload 4, 2) := by decide +kernel
theorem dL_addFork_2 : decode cL_addFork 2 = .ok (.iconst 0, 1) := by decide +kernel
theorem dL_addFork_3 : decode cL_addFork 3 = .ok (.aload_n 0, 1) := by decide +kernel
theorem dL_addFork_4 : decode cL_addFork 4 = .ok (.iload_n 1, 1) := by decide +kernel
theorem dL_addFork_5 : decode cL_addFork 5 = .ok (.iload_n 2, 1) := by decide +kernel
theorem dL_addFork_6 : decode cL_addFork 6 = .ok (.iload_n 3, 1) := by decide +kernel
theorem dL_addFork_7 : decode cL_addFork 7 = .ok (.invokevirtual 17, 3) := by decide +kernel
theorem dL_addFork_10 : decode cL_addFork 10 = .ok (.i2l, 1) := by decide +kernel
theorem dL_addFork_11 : decode cL_addFork 11 = .ok (.lastore, 1) := by decide +kernel
theorem dL_addFork_12 : decode cL_addFork 12 = .ok (.goto 15, 3) := by decide +kernel
theorem dL_addFork_15 : decode cL_addFork 15 = .ok (.astore 5, 2) := by decide +kernel
theorem dL_addFork_17 : decode cL_addFork 17 = .ok (.iconst 1, 1) := by decide +kernel
theorem dL_addFork_18 : decode cL_addFork 18 = .ok (.ireturn, 1) := by decide +kernel
theorem dL_addFork_19 : decode cL_addFork 19 = .ok (.astore 5, 2) := by decide +kernel
theorem dL_addFork_21 : decode cL_addFork 21 = .ok (.iconst 2, 1) := by decide +kernel
theorem dL_addFork_22 : decode cL_addFork 22 = .ok (.ireturn, 1) := by decide +kernel
theorem dL_addFork_23 : decode cL_addFork 23 = .ok (.astore 5, 2) := by decide +kernel
theorem dL_addFork_25 : decode cL_addFork 25 = .ok (.iconst 3, 1) := by decide +kernel
theorem dL_addFork_26 : decode cL_addFork 26 = .ok (.ireturn, 1) := by decide +kernel
theorem dL_addFork_27 : decode cL_addFork 27 = .ok (.iconst 0, 1) := by decide +kernel
theorem dL_addFork_28 : decode cL_addFork 28 = .ok (.ireturn, 1) := by decide +kernel
set_option maxRecDepth 20000 in
theorem ggL_grade_X0_grade : GoodIn wsL_grade wsX0_grade := goodIn_ca (goodIn_ca (goodIn_ca (goodIn_r _ [8, 9, 10, 11, 12, 13, 14, 15, 16, 17, 18, 19, 20, 7, 21, 22, 23, 24, 25, 26, 27, 28, 29, 30, 31, 32, 33, 34, 35, 36, 37, 38, 39, 40, 41, 42, 43, 44, 45, 46, 47, 48, 49, 50, 51, 52, 53, 54, 55, 56, 57, 58, 59, 60, 61, 62, 63, 64, 65, 66, 67, 68, 69, 70, 71, 72, 73, 74, 75, 76, 77, 78, 79, 80, 81, 82, 83, 84, 85, 86, 87, 88, 89] (by decide +kernel) (by decide +kernel)) (goodIn_sub (fun _ h => List.mem_cons_of_mem _ (List.mem_append_left _ (List.mem_append_left _ (List.mem_append_right _ h)))) (by decide +kernel))) (goodIn_sub (fun _ h => List.mem_cons_of_mem _ (List.mem_append_left _ (List.mem_append_right _ h))) (by decide +kernel))) (goodIn_sub (fun _ h => List.mem_cons_of_mem _ (List.mem_append_right _ h)) (by decide +kernel))
set_option maxRecDepth 20000 in
theorem gL_grade_X0_grade : GoodIn wsL_grade (wsV RL 23 RX0 yX0_grade wsX0_grade) := goodIn_app (goodIn_of _ (by decide +kernel)) ggL_grade_X0_grade
theorem dL_grade_0 : decode cL_grade 0 = .ok (.aload_n 3, 1) := by decide +kernel
theorem dL_grade_1 : decode cL_grade 1 = .ok (.iconst 0, 1) := by decide +kernel
theorem dL_grade_2 : decode cL_grade 2 = .ok (.aload_n 0, 1) := by decide +kernel
theorem dL_grade_3 : decode cL_grade 3 = .ok (.iload_n 1, 1) := by decide +kernel
theorem dL_grade_4 : decode cL_grade 4 = .ok (.iload_n 2, 1) := by decide +kernel
theorem dL_grade_5 : decode cL_grade 5 = .ok (.invokevirtual 23, 3) := by decide +kernel
theorem dL_grade_8 : decode cL_grade 8 = .ok (.i2l, 1) := by decide +kernel
theorem dL_grade_9 : decode cL_grade 9 = .ok (.lastore, 1) := by decide +kernel
theorem dL_grade_10 : decode cL_grade 10 = .ok (.goto 15, 3) := by decide +kernel
theorem dL_grade_13 : decode cL_grade 13 = .ok (.astore 4, 2) := by decide +kernel
theorem dL_grade_15 : decode cL_grade 15 = .ok (.iconst 1, 1) := by decide +kernel
theorem dL_grade_16 : decode cL_grade 16 = .ok (.ireturn, 1) := by decide +kernel
theorem dL_grade_17 : decode cL_grade 17 = .ok (.astore 4, 2) := by decide +kernel
theorem dL_grade_19 : decode cL_grade 19 = .ok (.iconst 2, 1) := by decide +kernel
theorem dL_grade_20 : decode cL_grade 20 = .ok (.ireturn, 1) := by decide +kernel
theorem dL_grade_21 : decode cL_grade 21 = .ok (.astore 4, 2) := by decide +kernel
theorem dL_grade_23 : decode cL_grade 23 = .ok (.iconst 3, 1) := by decide +kernel
theorem dL_grade_24 : decode cL_grade 24 = .ok (.ireturn, 1) := by decide +kernel
theorem dL_grade_25 : decode cL_grade 25 = .ok (.iconst 0, 1) := by decide +kernel
theorem dL_grade_26 : decode cL_grade 26 = .ok (.ireturn, 1) := by decide +kernel
set_option maxRecDepth 20000 in
theorem ggL_weigh_X0_weigh : GoodIn wsL_weigh wsX0_weigh := goodIn_ca (goodIn_ca (goodIn_r _ [7, 8, 9, 10, 11, 6, 12, 13, 14, 15, 16, 17, 18, 19, 20, 21, 22, 23, 24, 25, 26, 27, 28, 29, 30, 31, 32, 33, 34, 35, 36, 37, 38, 39, 40, 41, 42, 43, 44, 45, 46, 47, 48, 49, 50, 51, 52, 53, 54, 55, 56] (by decide +kernel) (by decide +kernel)) (goodIn_sub (fun _ h => List.mem_cons_of_mem _ (List.mem_append_left _ (List.mem_append_right _ h))) (by decide +kernel))) (goodIn_sub (fun _ h => List.mem_cons_of_mem _ (List.mem_append_right _ h)) (by decide +kernel))
set_option maxRecDepth 20000 in
theorem gL_weigh_X0_weigh : GoodIn wsL_weigh (wsV RL 26 RX0 yX0_weigh wsX0_weigh) := goodIn_app (goodIn_of _ (by decide +kernel)) ggL_weigh_X0_weigh
theorem dL_weigh_0 : decode cL_weigh 0 = .ok (.aload_n 3, 1) := by decide +kernel
theorem dL_weigh_1 : decode cL_weigh 1 = .ok (.iconst 0, 1) := by decide +kernel
theorem dL_weigh_2 : decode cL_weigh 2 = .ok (.aload_n 0, 1) := by decide +kernel
theorem dL_weigh_3 : decode cL_weigh 3 = .ok (.iload_n 1, 1) := by decide +kernel
theorem dL_weigh_4 : decode cL_weigh 4 = .ok (.iload_n 2, 1) := by decide +kernel
theorem dL_weigh_5 : decode cL_weigh 5 = .ok (.invokevirtual 26, 3) := by decide +kernel
theorem dL_weigh_8 : decode cL_weigh 8 = .ok (.i2l, 1) := by decide +kernel
theorem dL_weigh_9 : decode cL_weigh 9 = .ok (.lastore, 1) := by decide +kernel
theorem dL_weigh_10 : decode cL_weigh 10 = .ok (.goto 11, 3) := by decide +kernel
theorem dL_weigh_13 : decode cL_weigh 13 = .ok (.astore 4, 2) := by decide +kernel
theorem dL_weigh_15 : decode cL_weigh 15 = .ok (.iconst 1, 1) := by decide +kernel
theorem dL_weigh_16 : decode cL_weigh 16 = .ok (.ireturn, 1) := by decide +kernel
theorem dL_weigh_17 : decode cL_weigh 17 = .ok (.astore 4, 2) := by decide +kernel
theorem dL_weigh_19 : decode cL_weigh 19 = .ok (.iconst 2, 1) := by decide +kernel
theorem dL_weigh_20 : decode cL_weigh 20 = .ok (.ireturn, 1) := by decide +kernel
theorem dL_weigh_21 : decode cL_weigh 21 = .ok (.iconst 0, 1) := by decide +kernel
theorem dL_weigh_22 : decode cL_weigh 22 = .ok (.ireturn, 1) := by decide +kernel
set_option maxRecDepth 20000 in
theorem ggL_enroll_X0_enroll : GoodIn wsL_enroll wsX0_enroll := goodIn_ca (goodIn_ca (goodIn_r _ [7, 8, 9, 10, 11, 12, 13, 14, 6, 15, 16, 17, 18, 19, 20, 21, 22, 23, 24, 25, 26, 27, 28, 29, 30, 31, 32, 33, 34, 35, 36, 37, 38, 39] (by decide +kernel) (by decide +kernel)) (goodIn_sub (fun _ h => List.mem_cons_of_mem _ (List.mem_append_left _ (List.mem_append_right _ h))) (by decide +kernel))) (goodIn_sub (fun _ h => List.mem_cons_of_mem _ (List.mem_append_right _ h)) (by decide +kernel))
set_option maxRecDepth 20000 in
theorem gL_enroll_X0_enroll : GoodIn wsL_enroll (wsV RL 29 RX0 yX0_enroll wsX0_enroll) := goodIn_app (goodIn_of _ (by decide +kernel)) ggL_enroll_X0_enroll
theorem dL_enroll_0 : decode cL_enroll 0 = .ok (.aload_n 2, 1) := by decide +kernel
theorem dL_enroll_1 : decode cL_enroll 1 = .ok (.iconst 0, 1) := by decide +kernel
theorem dL_enroll_2 : decode cL_enroll 2 = .ok (.aload_n 0, 1) := by decide +kernel
theorem dL_enroll_3 : decode cL_enroll 3 = .ok (.iload_n 1, 1) := by decide +kernel
theorem dL_enroll_4 : decode cL_enroll 4 = .ok (.invokevirtual 29, 3) := by decide +kernel
theorem dL_enroll_7 : decode cL_enroll 7 = .ok (.i2l, 1) := by decide +kernel
theorem dL_enroll_8 : decode cL_enroll 8 = .ok (.lastore, 1) := by decide +kernel
theorem dL_enroll_9 : decode cL_enroll 9 = .ok (.goto 9, 3) := by decide +kernel
theorem dL_enroll_12 : decode cL_enroll 12 = .ok (.astore_n 3, 1) := by decide +kernel
theorem dL_enroll_13 : decode cL_enroll 13 = .ok (.iconst 1, 1) := by decide +kernel
theorem dL_enroll_14 : decode cL_enroll 14 = .ok (.ireturn, 1) := by decide +kernel
theorem dL_enroll_15 : decode cL_enroll 15 = .ok (.astore_n 3, 1) := by decide +kernel
theorem dL_enroll_16 : decode cL_enroll 16 = .ok (.iconst 2, 1) := by decide +kernel
theorem dL_enroll_17 : decode cL_enroll 17 = .ok (.ireturn, 1) := by decide +kernel
theorem dL_enroll_18 : decode cL_enroll 18 = .ok (.iconst 0, 1) := by decide +kernel
theorem dL_enroll_19 : decode cL_enroll 19 = .ok (.ireturn, 1) := by decide +kernel
set_option maxRecDepth 20000 in
theorem ggL_turn_X0_turn : GoodIn wsL_turn wsX0_turn := goodIn_ca (goodIn_ca (goodIn_r _ [7, 8, 9, 10, 11, 12, 13, 6, 14, 15, 16, 17, 18, 19, 20, 21, 22, 23, 24, 25, 26, 27, 28, 29, 30, 31, 32, 33, 34, 35, 36, 37, 38, 39, 40, 41, 42, 43, 44, 45, 46, 47, 48, 49, 50, 51, 52, 53, 54, 55, 56, 57, 58, 59, 60, 61] (by decide +kernel) (by decide +kernel)) (goodIn_sub (fun _ h => List.mem_cons_of_mem _ (List.mem_append_left _ (List.mem_append_right _ h))) (by decide +kernel))) (goodIn_sub (fun _ h => List.mem_cons_of_mem _ (List.mem_append_right _ h)) (by decide +kernel))
set_option maxRecDepth 20000 in
theorem gL_turn_X0_turn : GoodIn wsL_turn (wsV RL 33 RX0 yX0_turn wsX0_turn) := goodIn_app (goodIn_of _ (by decide +kernel)) ggL_turn_X0_turn
theorem dL_turn_0 : decode cL_turn 0 = .ok (.aload_n 3, 1) := by decide +kernel
theorem dL_turn_1 : decode cL_turn 1 = .ok (.iconst 0, 1) := by decide +kernel
theorem dL_turn_2 : decode cL_turn 2 = .ok (.aload_n 0, 1) := by decide +kernel
theorem dL_turn_3 : decode cL_turn 3 = .ok (.iload_n 1, 1) := by decide +kernel
theorem dL_turn_4 : decode cL_turn 4 = .ok (.iload_n 2, 1) := by decide +kernel
theorem dL_turn_5 : decode cL_turn 5 = .ok (.invokevirtual 33, 3) := by decide +kernel
theorem dL_turn_8 : decode cL_turn 8 = .ok (.i2l, 1) := by decide +kernel
theorem dL_turn_9 : decode cL_turn 9 = .ok (.lastore, 1) := by decide +kernel
theorem dL_turn_10 : decode cL_turn 10 = .ok (.goto 11, 3) := by decide +kernel
theorem dL_turn_13 : decode cL_turn 13 = .ok (.astore 4, 2) := by decide +kernel
theorem dL_turn_15 : decode cL_turn 15 = .ok (.iconst 1, 1) := by decide +kernel
theorem dL_turn_16 : decode cL_turn 16 = .ok (.ireturn, 1) := by decide +kernel
theorem dL_turn_17 : decode cL_turn 17 = .ok (.astore 4, 2) := by decide +kernel
theorem dL_turn_19 : decode cL_turn 19 = .ok (.iconst 2, 1) := by decide +kernel
theorem dL_turn_20 : decode cL_turn 20 = .ok (.ireturn, 1) := by decide +kernel
theorem dL_turn_21 : decode cL_turn 21 = .ok (.iconst 0, 1) := by decide +kernel
theorem dL_turn_22 : decode cL_turn 22 = .ok (.ireturn, 1) := by decide +kernel
set_option maxRecDepth 20000 in
theorem ggL_goBack_X0_goBack : GoodIn wsL_goBack wsX0_goBack := goodIn_ca (goodIn_ca (goodIn_r _ [7, 8, 9, 10, 11, 12, 13, 14, 6, 15, 16, 17, 18, 19, 20, 21, 22, 23, 24, 25, 26, 27, 28, 29, 30, 31, 32, 33, 34, 35, 36, 37, 38, 39, 40, 41, 42, 43, 44, 45, 46, 47] (by decide +kernel) (by decide +kernel)) (goodIn_sub (fun _ h => List.mem_cons_of_mem _ (List.mem_append_left _ (List.mem_append_right _ h))) (by decide +kernel))) (goodIn_sub (fun _ h => List.mem_cons_of_mem _ (List.mem_append_right _ h)) (by decide +kernel))
set_option maxRecDepth 20000 in
theorem gL_goBack_X0_goBack : GoodIn wsL_goBack (wsV RL 37 RX0 yX0_goBack wsX0_goBack) := goodIn_app (goodIn_of _ (by decide +kernel)) ggL_goBack_X0_goBack
theorem dL_goBack_0 : decode cL_goBack 0 = .ok (.aload_n 2, 1) := by decide +kernel
theorem dL_goBack_1 : decode cL_goBack 1 = .ok (.iconst 0, 1) := by decide +kernel
theorem dL_goBack_2 : decode cL_goBack 2 = .ok (.aload_n 0, 1) := by decide +kernel
theorem dL_goBack_3 : decode cL_goBack 3 = .ok (.iload_n 1, 1) := by decide +kernel
theorem dL_goBack_4 : decode cL_goBack 4 = .ok (.invokevirtual 37, 3) := by decide +kernel
theorem dL_goBack_7 : decode cL_goBack 7 = .ok (.i2l, 1) := by decide +kernel
theorem dL_goBack_8 : decode cL_goBack 8 = .ok (.lastore, 1) := by decide +kernel
theorem dL_goBack_9 : decode cL_goBack 9 = .ok (.goto 9, 3) := by decide +kernel
theorem dL_goBack_12 : decode cL_goBack 12 = .ok (.astore_n 3, 1) := by decide +kernel
theorem dL_goBack_13 : decode cL_goBack 13 = .ok (.iconst 1, 1) := by decide +kernel
theorem dL_goBack_14 : decode cL_goBack 14 = .ok (.ireturn, 1) := by decide +kernel
theorem dL_goBack_15 : decode cL_goBack 15 = .ok (.astore_n 3, 1) := by decide +kernel
theorem dL_goBack_16 : decode cL_goBack 16 = .ok (.iconst 2, 1) := by decide +kernel
theorem dL_goBack_17 : decode cL_goBack 17 = .ok (.ireturn, 1) := by decide +kernel
theorem dL_goBack_18 : decode cL_goBack 18 = .ok (.iconst 0, 1) := by decide +kernel
theorem dL_goBack_19 : decode cL_goBack 19 = .ok (.ireturn, 1) := by decide +kernel
set_option maxRecDepth 20000 in
theorem ggL_follow_X0_follow : GoodIn wsL_follow wsX0_follow := goodIn_ca (goodIn_r _ [6, 7, 8, 9, 10, 5, 11, 12, 13, 14, 15, 16, 17, 18, 19, 20, 21, 22, 23, 24, 25, 26, 27, 28, 29, 30, 31, 32, 33, 34, 35, 36, 37, 38, 39, 40, 41, 42, 43, 44, 45, 46, 47, 48, 49, 50, 51, 52, 53, 54, 55, 56, 57, 58, 59, 60, 61, 62, 63, 64, 65, 66, 67, 68, 69, 70, 71, 72, 73] (by decide +kernel) (by decide +kernel)) (goodIn_sub (fun _ h => List.mem_cons_of_mem _ (List.mem_append_right _ h)) (by decide +kernel))
set_option maxRecDepth 20000 in
theorem gL_follow_X0_follow : GoodIn wsL_follow (wsV RL 40 RX0 yX0_follow wsX0_follow) := goodIn_app (goodIn_of _ (by decide +kernel)) ggL_follow_X0_follow
theorem dL_follow_0 : decode cL_follow 0 = .ok (.aload_n 2, 1) := by decide +kernel
theorem dL_follow_1 : decode cL_follow 1 = .ok (.iconst 0, 1) := by decide +kernel
theorem dL_follow_2 : decode cL_follow 2 = .ok (.aload_n 0, 1) := by decide +kernel
theorem dL_follow_3 : decode cL_follow 3 = .ok (.iload_n 1, 1) := by decide +kernel
theorem dL_follow_4 : decode cL_follow 4 = .ok (.invokevirtual 40, 3) := by decide +kernel
theorem dL_follow_7 : decode cL_follow 7 = .ok (.i2l, 1) := by decide +kernel
theorem dL_follow_8 : decode cL_follow 8 = .ok (.lastore, 1) := by decide +kernel
theorem dL_follow_9 : decode cL_follow 9 = .ok (.goto 6, 3) := by decide +kernel
theorem dL_follow_12 : decode cL_follow 12 = .ok (.astore_n 3, 1) := by decide +kernel
theorem dL_follow_13 : decode cL_follow 13 = .ok (.iconst 1, 1) := by decide +kernel
theorem dL_follow_14 : decode cL_follow 14 = .ok (.ireturn, 1) := by decide +kernel
theorem dL_follow_15 : decode cL_follow 15 = .ok (.iconst 0, 1) := by decide +kernel
theorem dL_follow_16 : decode cL_follow 16 = .ok (.ireturn, 1) := by decide +kernel
set_option maxRecDepth 20000 in
theorem ggL_isExam_X0_isExam : GoodIn wsL_isExam wsX0_isExam := goodIn_ca (goodIn_r _ [6, 7, 8, 9, 5, 10, 11, 12, 13, 14, 15, 16, 17, 18, 19, 20, 21, 22, 23, 24, 25, 26, 27, 28, 29, 30, 31, 32, 33, 34, 35, 36, 37, 38, 39] (by decide +kernel) (by decide +kernel)) (goodIn_sub (fun _ h => List.mem_cons_of_mem _ (List.mem_append_right _ h)) (by decide +kernel))
set_option maxRecDepth 20000 in
theorem gL_isExam_X0_isExam : GoodIn wsL_isExam (wsV RL 43 RX0 yX0_isExam wsX0_isExam) := goodIn_app (goodIn_of _ (by decide +kernel)) ggL_isExam_X0_isExam
theorem dL_isExam_0 : decode cL_isExam 0 = .ok (.aload_n 2, 1) := by decide +kernel
theorem dL_isExam_1 : decode cL_isExam 1 = .ok (.iconst 0, 1) := by decide +kernel
theorem dL_isExam_2 : decode cL_isExam 2 = .ok (.aload_n 0, 1) := by decide +kernel
theorem dL_isExam_3 : decode cL_isExam 3 = .ok (.iload_n 1, 1) := by decide +kernel
theorem dL_isExam_4 : decode cL_isExam 4 = .ok (.invokevirtual 43, 3) := by decide +kernel
theorem dL_isExam_7 : decode cL_isExam 7 = .ok (.ifCond .eq 7, 3) := by decide +kernel
theorem dL_isExam_10 : decode cL_isExam 10 = .ok (.lconst 1, 1) := by decide +kernel
theorem dL_isExam_11 : decode cL_isExam 11 = .ok (.goto 4, 3) := by decide +kernel
theorem dL_isExam_14 : decode cL_isExam 14 = .ok (.lconst 0, 1) := by decide +kernel
theorem dL_isExam_15 : decode cL_isExam 15 = .ok (.lastore, 1) := by decide +kernel
theorem dL_isExam_16 : decode cL_isExam 16 = .ok (.goto 6, 3) := by decide +kernel
theorem dL_isExam_19 : decode cL_isExam 19 = .ok (.astore_n 3, 1) := by decide +kernel
theorem dL_isExam_20 : decode cL_isExam 20 = .ok (.iconst 1, 1) := by decide +kernel
theorem dL_isExam_21 : decode cL_isExam 21 = .ok (.ireturn, 1) := by decide +kernel
theorem dL_isExam_22 : decode cL_isExam 22 = .ok (.iconst 0, 1) := by decide +kernel
theorem dL_isExam_23 : decode cL_isExam 23 = .ok (.ireturn, 1) := by decide +kernel
set_option maxRecDepth 20000 in
theorem ggL_isGraded_X0_isGraded : GoodIn wsL_isGraded wsX0_isGraded := goodIn_ca (goodIn_r _ [6, 7, 8, 9, 5, 10, 11, 12, 13, 14, 15, 16, 17, 18, 19, 20, 21, 22, 23, 24, 25, 26, 27, 28, 29, 30, 31, 32, 33, 34, 35, 36, 37, 38, 39, 40, 41, 42, 43, 44, 45, 46, 47, 48, 49, 50, 51] (by decide +kernel) (by decide +kernel)) (goodIn_sub (fun _ h => List.mem_cons_of_mem _ (List.mem_append_right _ h)) (by decide +kernel))
set_option maxRecDepth 20000 in
theorem gL_isGraded_X0_isGraded : GoodIn wsL_isGraded (wsV RL 47 RX0 yX0_isGraded wsX0_isGraded) := goodIn_app (goodIn_of _ (by decide +kernel)) ggL_isGraded_X0_isGraded
theorem dL_isGraded_0 : decode cL_isGraded 0 = .ok (.aload_n 2, 1) := by decide +kernel
theorem dL_isGraded_1 : decode cL_isGraded 1 = .ok (.iconst 0, 1) := by decide +kernel
theorem dL_isGraded_2 : decode cL_isGraded 2 = .ok (.aload_n 0, 1) := by decide +kernel
theorem dL_isGraded_3 : decode cL_isGraded 3 = .ok (.iload_n 1, 1) := by decide +kernel
theorem dL_isGraded_4 : decode cL_isGraded 4 = .ok (.invokevirtual 47, 3) := by decide +kernel
theorem dL_isGraded_7 : decode cL_isGraded 7 = .ok (.ifCond .eq 7, 3) := by decide +kernel
theorem dL_isGraded_10 : decode cL_isGraded 10 = .ok (.lconst 1, 1) := by decide +kernel
theorem dL_isGraded_11 : decode cL_isGraded 11 = .ok (.goto 4, 3) := by decide +kernel
theorem dL_isGraded_14 : decode cL_isGraded 14 = .ok (.lconst 0, 1) := by decide +kernel
theorem dL_isGraded_15 : decode cL_isGraded 15 = .ok (.lastore, 1) := by decide +kernel
theorem dL_isGraded_16 : decode cL_isGraded 16 = .ok (.goto 6, 3) := by decide +kernel
theorem dL_isGraded_19 : decode cL_isGraded 19 = .ok (.astore_n 3, 1) := by decide +kernel
theorem dL_isGraded_20 : decode cL_isGraded 20 = .ok (.iconst 1, 1) := by decide +kernel
theorem dL_isGraded_21 : decode cL_isGraded 21 = .ok (.ireturn, 1) := by decide +kernel
theorem dL_isGraded_22 : decode cL_isGraded 22 = .ok (.iconst 0, 1) := by decide +kernel
theorem dL_isGraded_23 : decode cL_isGraded 23 = .ok (.ireturn, 1) := by decide +kernel
set_option maxRecDepth 20000 in
theorem ggL_gradeOf_X0_gradeOf : GoodIn wsL_gradeOf wsX0_gradeOf := goodIn_ca (goodIn_r _ [6, 7, 8, 9, 10, 5, 11, 12, 13, 14, 15, 16, 17, 18, 19, 20, 21, 22, 23, 24, 25, 26, 27, 28, 29, 30, 31, 32, 33, 34, 35, 36, 37, 38, 39, 40, 41, 42, 43, 44, 45, 46, 47] (by decide +kernel) (by decide +kernel)) (goodIn_sub (fun _ h => List.mem_cons_of_mem _ (List.mem_append_right _ h)) (by decide +kernel))
set_option maxRecDepth 20000 in
theorem gL_gradeOf_X0_gradeOf : GoodIn wsL_gradeOf (wsV RL 50 RX0 yX0_gradeOf wsX0_gradeOf) := goodIn_app (goodIn_of _ (by decide +kernel)) ggL_gradeOf_X0_gradeOf
theorem dL_gradeOf_0 : decode cL_gradeOf 0 = .ok (.aload_n 2, 1) := by decide +kernel
theorem dL_gradeOf_1 : decode cL_gradeOf 1 = .ok (.iconst 0, 1) := by decide +kernel
theorem dL_gradeOf_2 : decode cL_gradeOf 2 = .ok (.aload_n 0, 1) := by decide +kernel
theorem dL_gradeOf_3 : decode cL_gradeOf 3 = .ok (.iload_n 1, 1) := by decide +kernel
theorem dL_gradeOf_4 : decode cL_gradeOf 4 = .ok (.invokevirtual 50, 3) := by decide +kernel
theorem dL_gradeOf_7 : decode cL_gradeOf 7 = .ok (.i2l, 1) := by decide +kernel
theorem dL_gradeOf_8 : decode cL_gradeOf 8 = .ok (.lastore, 1) := by decide +kernel
theorem dL_gradeOf_9 : decode cL_gradeOf 9 = .ok (.goto 6, 3) := by decide +kernel
theorem dL_gradeOf_12 : decode cL_gradeOf 12 = .ok (.astore_n 3, 1) := by decide +kernel
theorem dL_gradeOf_13 : decode cL_gradeOf 13 = .ok (.iconst 1, 1) := by decide +kernel
theorem dL_gradeOf_14 : decode cL_gradeOf 14 = .ok (.ireturn, 1) := by decide +kernel
theorem dL_gradeOf_15 : decode cL_gradeOf 15 = .ok (.iconst 0, 1) := by decide +kernel
theorem dL_gradeOf_16 : decode cL_gradeOf 16 = .ok (.ireturn, 1) := by decide +kernel
set_option maxRecDepth 20000 in
theorem ggL_leftOf_X0_leftOf : GoodIn wsL_leftOf wsX0_leftOf := goodIn_ca (goodIn_r _ [6, 7, 8, 9, 10, 5, 11, 12, 13, 14, 15, 16, 17, 18, 19, 20, 21, 22, 23, 24, 25, 26, 27, 28, 29, 30, 31, 32, 33, 34, 35, 36, 37, 38, 39, 40, 41, 42, 43, 44, 45, 46, 47] (by decide +kernel) (by decide +kernel)) (goodIn_sub (fun _ h => List.mem_cons_of_mem _ (List.mem_append_right _ h)) (by decide +kernel))
set_option maxRecDepth 20000 in
theorem gL_leftOf_X0_leftOf : GoodIn wsL_leftOf (wsV RL 53 RX0 yX0_leftOf wsX0_leftOf) := goodIn_app (goodIn_of _ (by decide +kernel)) ggL_leftOf_X0_leftOf
theorem dL_leftOf_0 : decode cL_leftOf 0 = .ok (.aload_n 2, 1) := by decide +kernel
theorem dL_leftOf_1 : decode cL_leftOf 1 = .ok (.iconst 0, 1) := by decide +kernel
theorem dL_leftOf_2 : decode cL_leftOf 2 = .ok (.aload_n 0, 1) := by decide +kernel
theorem dL_leftOf_3 : decode cL_leftOf 3 = .ok (.iload_n 1, 1) := by decide +kernel
theorem dL_leftOf_4 : decode cL_leftOf 4 = .ok (.invokevirtual 53, 3) := by decide +kernel
theorem dL_leftOf_7 : decode cL_leftOf 7 = .ok (.i2l, 1) := by decide +kernel
theorem dL_leftOf_8 : decode cL_leftOf 8 = .ok (.lastore, 1) := by decide +kernel
theorem dL_leftOf_9 : decode cL_leftOf 9 = .ok (.goto 6, 3) := by decide +kernel
theorem dL_leftOf_12 : decode cL_leftOf 12 = .ok (.astore_n 3, 1) := by decide +kernel
theorem dL_leftOf_13 : decode cL_leftOf 13 = .ok (.iconst 1, 1) := by decide +kernel
theorem dL_leftOf_14 : decode cL_leftOf 14 = .ok (.ireturn, 1) := by decide +kernel
theorem dL_leftOf_15 : decode cL_leftOf 15 = .ok (.iconst 0, 1) := by decide +kernel
theorem dL_leftOf_16 : decode cL_leftOf 16 = .ok (.ireturn, 1) := by decide +kernel
set_option maxRecDepth 20000 in
theorem ggL_rightOf_X0_rightOf : GoodIn wsL_rightOf wsX0_rightOf := goodIn_ca (goodIn_r _ [6, 7, 8, 9, 10, 5, 11, 12, 13, 14, 15, 16, 17, 18, 19, 20, 21, 22, 23, 24, 25, 26, 27, 28, 29, 30, 31, 32, 33, 34, 35, 36, 37, 38, 39, 40, 41, 42, 43, 44, 45, 46, 47] (by decide +kernel) (by decide +kernel)) (goodIn_sub (fun _ h => List.mem_cons_of_mem _ (List.mem_append_right _ h)) (by decide +kernel))
set_option maxRecDepth 20000 in
theorem gL_rightOf_X0_rightOf : GoodIn wsL_rightOf (wsV RL 56 RX0 yX0_rightOf wsX0_rightOf) := goodIn_app (goodIn_of _ (by decide +kernel)) ggL_rightOf_X0_rightOf
theorem dL_rightOf_0 : decode cL_rightOf 0 = .ok (.aload_n 2, 1) := by decide +kernel
theorem dL_rightOf_1 : decode cL_rightOf 1 = .ok (.iconst 0, 1) := by decide +kernel
theorem dL_rightOf_2 : decode cL_rightOf 2 = .ok (.aload_n 0, 1) := by decide +kernel
theorem dL_rightOf_3 : decode cL_rightOf 3 = .ok (.iload_n 1, 1) := by decide +kernel
theorem dL_rightOf_4 : decode cL_rightOf 4 = .ok (.invokevirtual 56, 3) := by decide +kernel
theorem dL_rightOf_7 : decode cL_rightOf 7 = .ok (.i2l, 1) := by decide +kernel
theorem dL_rightOf_8 : decode cL_rightOf 8 = .ok (.lastore, 1) := by decide +kernel
theorem dL_rightOf_9 : decode cL_rightOf 9 = .ok (.goto 6, 3) := by decide +kernel
theorem dL_rightOf_12 : decode cL_rightOf 12 = .ok (.astore_n 3, 1) := by decide +kernel
theorem dL_rightOf_13 : decode cL_rightOf 13 = .ok (.iconst 1, 1) := by decide +kernel
theorem dL_rightOf_14 : decode cL_rightOf 14 = .ok (.ireturn, 1) := by decide +kernel
theorem dL_rightOf_15 : decode cL_rightOf 15 = .ok (.iconst 0, 1) := by decide +kernel
theorem dL_rightOf_16 : decode cL_rightOf 16 = .ok (.ireturn, 1) := by decide +kernel
set_option maxRecDepth 20000 in
theorem ggL_weightOf_X0_weightOf : GoodIn wsL_weightOf wsX0_weightOf := goodIn_ca (goodIn_r _ [6, 7, 8, 9, 10, 5, 11, 12, 13, 14, 15, 16, 17, 18, 19, 20, 21, 22, 23, 24, 25, 26, 27, 28, 29, 30, 31, 32, 33, 34, 35, 36, 37, 38, 39, 40, 41, 42, 43, 44, 45, 46, 47] (by decide +kernel) (by decide +kernel)) (goodIn_sub (fun _ h => List.mem_cons_of_mem _ (List.mem_append_right _ h)) (by decide +kernel))
set_option maxRecDepth 20000 in
theorem gL_weightOf_X0_weightOf : GoodIn wsL_weightOf (wsV RL 59 RX0 yX0_weightOf wsX0_weightOf) := goodIn_app (goodIn_of _ (by decide +kernel)) ggL_weightOf_X0_weightOf
theorem dL_weightOf_0 : decode cL_weightOf 0 = .ok (.aload_n 2, 1) := by decide +kernel
theorem dL_weightOf_1 : decode cL_weightOf 1 = .ok (.iconst 0, 1) := by decide +kernel
theorem dL_weightOf_2 : decode cL_weightOf 2 = .ok (.aload_n 0, 1) := by decide +kernel
theorem dL_weightOf_3 : decode cL_weightOf 3 = .ok (.iload_n 1, 1) := by decide +kernel
theorem dL_weightOf_4 : decode cL_weightOf 4 = .ok (.invokevirtual 59, 3) := by decide +kernel
theorem dL_weightOf_7 : decode cL_weightOf 7 = .ok (.i2l, 1) := by decide +kernel
theorem dL_weightOf_8 : decode cL_weightOf 8 = .ok (.lastore, 1) := by decide +kernel
theorem dL_weightOf_9 : decode cL_weightOf 9 = .ok (.goto 6, 3) := by decide +kernel
theorem dL_weightOf_12 : decode cL_weightOf 12 = .ok (.astore_n 3, 1) := by decide +kernel
theorem dL_weightOf_13 : decode cL_weightOf 13 = .ok (.iconst 1, 1) := by decide +kernel
theorem dL_weightOf_14 : decode cL_weightOf 14 = .ok (.ireturn, 1) := by decide +kernel
theorem dL_weightOf_15 : decode cL_weightOf 15 = .ok (.iconst 0, 1) := by decide +kernel
theorem dL_weightOf_16 : decode cL_weightOf 16 = .ok (.ireturn, 1) := by decide +kernel
set_option maxRecDepth 20000 in
theorem ggL_placeOf_X0_placeOf : GoodIn wsL_placeOf wsX0_placeOf := goodIn_ca (goodIn_r _ [6, 7, 8, 9, 10, 5, 11, 12, 13, 14, 15, 16, 17, 18, 19, 20, 21, 22, 23, 24, 25, 26, 27, 28, 29, 30, 31, 32, 33, 34, 35] (by decide +kernel) (by decide +kernel)) (goodIn_sub (fun _ h => List.mem_cons_of_mem _ (List.mem_append_right _ h)) (by decide +kernel))
set_option maxRecDepth 20000 in
theorem gL_placeOf_X0_placeOf : GoodIn wsL_placeOf (wsV RL 62 RX0 yX0_placeOf wsX0_placeOf) := goodIn_app (goodIn_of _ (by decide +kernel)) ggL_placeOf_X0_placeOf
theorem dL_placeOf_0 : decode cL_placeOf 0 = .ok (.aload_n 2, 1) := by decide +kernel
theorem dL_placeOf_1 : decode cL_placeOf 1 = .ok (.iconst 0, 1) := by decide +kernel
theorem dL_placeOf_2 : decode cL_placeOf 2 = .ok (.aload_n 0, 1) := by decide +kernel
theorem dL_placeOf_3 : decode cL_placeOf 3 = .ok (.iload_n 1, 1) := by decide +kernel
theorem dL_placeOf_4 : decode cL_placeOf 4 = .ok (.invokevirtual 62, 3) := by decide +kernel
theorem dL_placeOf_7 : decode cL_placeOf 7 = .ok (.i2l, 1) := by decide +kernel
theorem dL_placeOf_8 : decode cL_placeOf 8 = .ok (.lastore, 1) := by decide +kernel
theorem dL_placeOf_9 : decode cL_placeOf 9 = .ok (.goto 6, 3) := by decide +kernel
theorem dL_placeOf_12 : decode cL_placeOf 12 = .ok (.astore_n 3, 1) := by decide +kernel
theorem dL_placeOf_13 : decode cL_placeOf 13 = .ok (.iconst 1, 1) := by decide +kernel
theorem dL_placeOf_14 : decode cL_placeOf 14 = .ok (.ireturn, 1) := by decide +kernel
theorem dL_placeOf_15 : decode cL_placeOf 15 = .ok (.iconst 0, 1) := by decide +kernel
theorem dL_placeOf_16 : decode cL_placeOf 16 = .ok (.ireturn, 1) := by decide +kernel
set_option maxRecDepth 20000 in
theorem ggL_passedBy_X0_passedBy : GoodIn wsL_passedBy wsX0_passedBy := goodIn_ca (goodIn_r _ [6, 7, 8, 9, 10, 5, 11, 12, 13, 14, 15, 16, 17, 18, 19, 20, 21, 22, 23, 24, 25, 26, 27, 28, 29, 30, 31, 32, 33, 34, 35] (by decide +kernel) (by decide +kernel)) (goodIn_sub (fun _ h => List.mem_cons_of_mem _ (List.mem_append_right _ h)) (by decide +kernel))
set_option maxRecDepth 20000 in
theorem gL_passedBy_X0_passedBy : GoodIn wsL_passedBy (wsV RL 65 RX0 yX0_passedBy wsX0_passedBy) := goodIn_app (goodIn_of _ (by decide +kernel)) ggL_passedBy_X0_passedBy
theorem dL_passedBy_0 : decode cL_passedBy 0 = .ok (.aload_n 2, 1) := by decide +kernel
theorem dL_passedBy_1 : decode cL_passedBy 1 = .ok (.iconst 0, 1) := by decide +kernel
theorem dL_passedBy_2 : decode cL_passedBy 2 = .ok (.aload_n 0, 1) := by decide +kernel
theorem dL_passedBy_3 : decode cL_passedBy 3 = .ok (.iload_n 1, 1) := by decide +kernel
theorem dL_passedBy_4 : decode cL_passedBy 4 = .ok (.invokevirtual 65, 3) := by decide +kernel
theorem dL_passedBy_7 : decode cL_passedBy 7 = .ok (.i2l, 1) := by decide +kernel
theorem dL_passedBy_8 : decode cL_passedBy 8 = .ok (.lastore, 1) := by decide +kernel
theorem dL_passedBy_9 : decode cL_passedBy 9 = .ok (.goto 6, 3) := by decide +kernel
theorem dL_passedBy_12 : decode cL_passedBy 12 = .ok (.astore_n 3, 1) := by decide +kernel
theorem dL_passedBy_13 : decode cL_passedBy 13 = .ok (.iconst 1, 1) := by decide +kernel
theorem dL_passedBy_14 : decode cL_passedBy 14 = .ok (.ireturn, 1) := by decide +kernel
theorem dL_passedBy_15 : decode cL_passedBy 15 = .ok (.iconst 0, 1) := by decide +kernel
theorem dL_passedBy_16 : decode cL_passedBy 16 = .ok (.ireturn, 1) := by decide +kernel
set_option maxRecDepth 20000 in
theorem ggL_sureGrade_X0_sureGrade : GoodIn wsL_sureGrade wsX0_sureGrade := goodIn_ca (goodIn_r _ [6, 7, 8, 9, 10, 5, 11, 12, 13, 14, 15, 16, 17, 18, 19, 20, 21, 22, 23, 24, 25, 26, 27, 28, 29, 30, 31, 32, 33, 34, 35] (by decide +kernel) (by decide +kernel)) (goodIn_sub (fun _ h => List.mem_cons_of_mem _ (List.mem_append_right _ h)) (by decide +kernel))
set_option maxRecDepth 20000 in
theorem gL_sureGrade_X0_sureGrade : GoodIn wsL_sureGrade (wsV RL 68 RX0 yX0_sureGrade wsX0_sureGrade) := goodIn_app (goodIn_of _ (by decide +kernel)) ggL_sureGrade_X0_sureGrade
theorem dL_sureGrade_0 : decode cL_sureGrade 0 = .ok (.aload_n 2, 1) := by decide +kernel
theorem dL_sureGrade_1 : decode cL_sureGrade 1 = .ok (.iconst 0, 1) := by decide +kernel
theorem dL_sureGrade_2 : decode cL_sureGrade 2 = .ok (.aload_n 0, 1) := by decide +kernel
theorem dL_sureGrade_3 : decode cL_sureGrade 3 = .ok (.iload_n 1, 1) := by decide +kernel
theorem dL_sureGrade_4 : decode cL_sureGrade 4 = .ok (.invokevirtual 68, 3) := by decide +kernel
theorem dL_sureGrade_7 : decode cL_sureGrade 7 = .ok (.i2l, 1) := by decide +kernel
theorem dL_sureGrade_8 : decode cL_sureGrade 8 = .ok (.lastore, 1) := by decide +kernel
theorem dL_sureGrade_9 : decode cL_sureGrade 9 = .ok (.goto 6, 3) := by decide +kernel
theorem dL_sureGrade_12 : decode cL_sureGrade 12 = .ok (.astore_n 3, 1) := by decide +kernel
theorem dL_sureGrade_13 : decode cL_sureGrade 13 = .ok (.iconst 1, 1) := by decide +kernel
theorem dL_sureGrade_14 : decode cL_sureGrade 14 = .ok (.ireturn, 1) := by decide +kernel
theorem dL_sureGrade_15 : decode cL_sureGrade 15 = .ok (.iconst 0, 1) := by decide +kernel
theorem dL_sureGrade_16 : decode cL_sureGrade 16 = .ok (.ireturn, 1) := by decide +kernel
set_option maxRecDepth 20000 in
theorem ggL_hope_X0_hope : GoodIn wsL_hope wsX0_hope := goodIn_ca (goodIn_r _ [6, 7, 8, 9, 10, 5, 11, 12, 13, 14, 15, 16, 17, 18, 19, 20, 21, 22, 23, 24, 25, 26, 27, 28, 29, 30, 31, 32, 33, 34, 35] (by decide +kernel) (by decide +kernel)) (goodIn_sub (fun _ h => List.mem_cons_of_mem _ (List.mem_append_right _ h)) (by decide +kernel))
set_option maxRecDepth 20000 in
theorem gL_hope_X0_hope : GoodIn wsL_hope (wsV RL 71 RX0 yX0_hope wsX0_hope) := goodIn_app (goodIn_of _ (by decide +kernel)) ggL_hope_X0_hope
theorem dL_hope_0 : decode cL_hope 0 = .ok (.aload_n 2, 1) := by decide +kernel
theorem dL_hope_1 : decode cL_hope 1 = .ok (.iconst 0, 1) := by decide +kernel
theorem dL_hope_2 : decode cL_hope 2 = .ok (.aload_n 0, 1) := by decide +kernel
theorem dL_hope_3 : decode cL_hope 3 = .ok (.iload_n 1, 1) := by decide +kernel
theorem dL_hope_4 : decode cL_hope 4 = .ok (.invokevirtual 71, 3) := by decide +kernel
theorem dL_hope_7 : decode cL_hope 7 = .ok (.i2l, 1) := by decide +kernel
theorem dL_hope_8 : decode cL_hope 8 = .ok (.lastore, 1) := by decide +kernel
theorem dL_hope_9 : decode cL_hope 9 = .ok (.goto 6, 3) := by decide +kernel
theorem dL_hope_12 : decode cL_hope 12 = .ok (.astore_n 3, 1) := by decide +kernel
theorem dL_hope_13 : decode cL_hope 13 = .ok (.iconst 1, 1) := by decide +kernel
theorem dL_hope_14 : decode cL_hope 14 = .ok (.ireturn, 1) := by decide +kernel
theorem dL_hope_15 : decode cL_hope 15 = .ok (.iconst 0, 1) := by decide +kernel
theorem dL_hope_16 : decode cL_hope 16 = .ok (.ireturn, 1) := by decide +kernel
set_option maxRecDepth 20000 in
theorem ggL_reaches_X0_reaches : GoodIn wsL_reaches wsX0_reaches := goodIn_ca (goodIn_r _ [6, 7, 8, 9, 10, 5, 11, 12, 13, 14, 15, 16, 17, 18, 19, 20, 21, 22, 23, 24, 25, 26, 27, 28, 29, 30, 31, 32, 33, 34, 35, 36, 37, 38] (by decide +kernel) (by decide +kernel)) (goodIn_sub (fun _ h => List.mem_cons_of_mem _ (List.mem_append_right _ h)) (by decide +kernel))
set_option maxRecDepth 20000 in
theorem gL_reaches_X0_reaches : GoodIn wsL_reaches (wsV RL 74 RX0 yX0_reaches wsX0_reaches) := goodIn_app (goodIn_of _ (by decide +kernel)) ggL_reaches_X0_reaches
theorem dL_reaches_0 : decode cL_reaches 0 = .ok (.aload_n 3, 1) := by decide +kernel
theorem dL_reaches_1 : decode cL_reaches 1 = .ok (.iconst 0, 1) := by decide +kernel
theorem dL_reaches_2 : decode cL_reaches 2 = .ok (.aload_n 0, 1) := by decide +kernel
theorem dL_reaches_3 : decode cL_reaches 3 = .ok (.iload_n 1, 1) := by decide +kernel
theorem dL_reaches_4 : decode cL_reaches 4 = .ok (.iload_n 2, 1) := by decide +kernel
theorem dL_reaches_5 : decode cL_reaches 5 = .ok (.invokevirtual 74, 3) := by decide +kernel
theorem dL_reaches_8 : decode cL_reaches 8 = .ok (.ifCond .eq 7, 3) := by decide +kernel
theorem dL_reaches_11 : decode cL_reaches 11 = .ok (.lconst 1, 1) := by decide +kernel
theorem dL_reaches_12 : decode cL_reaches 12 = .ok (.goto 4, 3) := by decide +kernel
theorem dL_reaches_15 : decode cL_reaches 15 = .ok (.lconst 0, 1) := by decide +kernel
theorem dL_reaches_16 : decode cL_reaches 16 = .ok (.lastore, 1) := by decide +kernel
theorem dL_reaches_17 : decode cL_reaches 17 = .ok (.goto 7, 3) := by decide +kernel
theorem dL_reaches_20 : decode cL_reaches 20 = .ok (.astore 4, 2) := by decide +kernel
theorem dL_reaches_22 : decode cL_reaches 22 = .ok (.iconst 1, 1) := by decide +kernel
theorem dL_reaches_23 : decode cL_reaches 23 = .ok (.ireturn, 1) := by decide +kernel
theorem dL_reaches_24 : decode cL_reaches 24 = .ok (.iconst 0, 1) := by decide +kernel
theorem dL_reaches_25 : decode cL_reaches 25 = .ok (.ireturn, 1) := by decide +kernel
set_option maxRecDepth 20000 in
theorem ggL_examsFrom_X0_examsFrom : GoodIn wsL_examsFrom wsX0_examsFrom := goodIn_ca (goodIn_r _ [6, 7, 8, 9, 10, 11, 5, 12, 13, 14, 15, 16, 17, 18, 19, 20, 21, 22, 23, 24, 25, 26, 27, 28, 29, 30, 31, 32, 33, 34, 35, 36, 37, 38, 39, 40, 41, 42, 43] (by decide +kernel) (by decide +kernel)) (goodIn_sub (fun _ h => List.mem_cons_of_mem _ (List.mem_append_right _ h)) (by decide +kernel))
set_option maxRecDepth 20000 in
theorem gL_examsFrom_X0_examsFrom : GoodIn wsL_examsFrom (wsV RL 78 RX0 yX0_examsFrom wsX0_examsFrom) := goodIn_app (goodIn_of _ (by decide +kernel)) ggL_examsFrom_X0_examsFrom
theorem dL_examsFrom_0 : decode cL_examsFrom 0 = .ok (.aload_n 2, 1) := by decide +kernel
theorem dL_examsFrom_1 : decode cL_examsFrom 1 = .ok (.iconst 0, 1) := by decide +kernel
theorem dL_examsFrom_2 : decode cL_examsFrom 2 = .ok (.aload_n 0, 1) := by decide +kernel
theorem dL_examsFrom_3 : decode cL_examsFrom 3 = .ok (.iload_n 1, 1) := by decide +kernel
theorem dL_examsFrom_4 : decode cL_examsFrom 4 = .ok (.invokevirtual 78, 3) := by decide +kernel
theorem dL_examsFrom_7 : decode cL_examsFrom 7 = .ok (.i2l, 1) := by decide +kernel
theorem dL_examsFrom_8 : decode cL_examsFrom 8 = .ok (.lastore, 1) := by decide +kernel
theorem dL_examsFrom_9 : decode cL_examsFrom 9 = .ok (.goto 6, 3) := by decide +kernel
theorem dL_examsFrom_12 : decode cL_examsFrom 12 = .ok (.astore_n 3, 1) := by decide +kernel
theorem dL_examsFrom_13 : decode cL_examsFrom 13 = .ok (.iconst 1, 1) := by decide +kernel
theorem dL_examsFrom_14 : decode cL_examsFrom 14 = .ok (.ireturn, 1) := by decide +kernel
theorem dL_examsFrom_15 : decode cL_examsFrom 15 = .ok (.iconst 0, 1) := by decide +kernel
theorem dL_examsFrom_16 : decode cL_examsFrom 16 = .ok (.ireturn, 1) := by decide +kernel
set_option maxRecDepth 20000 in
theorem ggL_risk_X0_risk : GoodIn wsL_risk wsX0_risk := goodIn_ca (goodIn_r _ [6, 7, 8, 9, 5, 10, 11, 12, 13, 14, 15, 16, 17, 18, 19, 20, 21, 22, 23, 24, 25, 26, 27, 28, 29, 30, 31, 32, 33, 34, 35, 36, 37, 38, 39, 40, 41, 42, 43, 44, 45, 46, 47, 48, 49, 50, 51, 52, 53, 54, 55, 56, 57, 58, 59, 60, 61, 62, 63] (by decide +kernel) (by decide +kernel)) (goodIn_sub (fun _ h => List.mem_cons_of_mem _ (List.mem_append_right _ h)) (by decide +kernel))
set_option maxRecDepth 20000 in
theorem gL_risk_X0_risk : GoodIn wsL_risk (wsV RL 81 RX0 yX0_risk wsX0_risk) := goodIn_app (goodIn_of _ (by decide +kernel)) ggL_risk_X0_risk
theorem dL_risk_0 : decode cL_risk 0 = .ok (.aload_n 3, 1) := by decide +kernel
theorem dL_risk_1 : decode cL_risk 1 = .ok (.iconst 0, 1) := by decide +kernel
theorem dL_risk_2 : decode cL_risk 2 = .ok (.aload_n 0, 1) := by decide +kernel
theorem dL_risk_3 : decode cL_risk 3 = .ok (.iload_n 1, 1) := by decide +kernel
theorem dL_risk_4 : decode cL_risk 4 = .ok (.iload_n 2, 1) := by decide +kernel
theorem dL_risk_5 : decode cL_risk 5 = .ok (.invokevirtual 81, 3) := by decide +kernel
theorem dL_risk_8 : decode cL_risk 8 = .ok (.i2l, 1) := by decide +kernel
theorem dL_risk_9 : decode cL_risk 9 = .ok (.lastore, 1) := by decide +kernel
theorem dL_risk_10 : decode cL_risk 10 = .ok (.goto 7, 3) := by decide +kernel
theorem dL_risk_13 : decode cL_risk 13 = .ok (.astore 4, 2) := by decide +kernel
theorem dL_risk_15 : decode cL_risk 15 = .ok (.iconst 1, 1) := by decide +kernel
theorem dL_risk_16 : decode cL_risk 16 = .ok (.ireturn, 1) := by decide +kernel
theorem dL_risk_17 : decode cL_risk 17 = .ok (.iconst 0, 1) := by decide +kernel
theorem dL_risk_18 : decode cL_risk 18 = .ok (.ireturn, 1) := by decide +kernel
set_option maxRecDepth 20000 in
theorem ggL_planTurnsRight_X0_planTurnsRight : GoodIn wsL_planTurnsRight wsX0_planTurnsRight := goodIn_ca (goodIn_r _ [6, 7, 8, 9, 5, 10, 11, 12, 13, 14, 15, 16, 17, 18, 19, 20, 21, 22, 23, 24, 25, 26, 27, 28, 29, 30, 31, 32, 33, 34, 35, 36, 37, 38, 39, 40, 41, 42, 43, 44, 45, 46, 47, 48, 49, 50, 51, 52, 53, 54, 55, 56, 57, 58, 59, 60, 61, 62, 63, 64, 65, 66, 67] (by decide +kernel) (by decide +kernel)) (goodIn_sub (fun _ h => List.mem_cons_of_mem _ (List.mem_append_right _ h)) (by decide +kernel))
set_option maxRecDepth 20000 in
theorem gL_planTurnsRight_X0_planTurnsRight : GoodIn wsL_planTurnsRight (wsV RL 84 RX0 yX0_planTurnsRight wsX0_planTurnsRight) := goodIn_app (goodIn_of _ (by decide +kernel)) ggL_planTurnsRight_X0_planTurnsRight
theorem dL_planTurnsRight_0 : decode cL_planTurnsRight 0 = .ok (.aload_n 2, 1) := by decide +kernel
theorem dL_planTurnsRight_1 : decode cL_planTurnsRight 1 = .ok (.iconst 0, 1) := by decide +kernel
theorem dL_planTurnsRight_2 : decode cL_planTurnsRight 2 = .ok (.aload_n 0, 1) := by decide +kernel
theorem dL_planTurnsRight_3 : decode cL_planTurnsRight 3 = .ok (.iload_n 1, 1) := by decide +kernel
theorem dL_planTurnsRight_4 : decode cL_planTurnsRight 4 = .ok (.invokevirtual 84, 3) := by decide +kernel
theorem dL_planTurnsRight_7 : decode cL_planTurnsRight 7 = .ok (.ifCond .eq 7, 3) := by decide +kernel
theorem dL_planTurnsRight_10 : decode cL_planTurnsRight 10 = .ok (.lconst 1, 1) := by decide +kernel
theorem dL_planTurnsRight_11 : decode cL_planTurnsRight 11 = .ok (.goto 4, 3) := by decide +kernel
theorem dL_planTurnsRight_14 : decode cL_planTurnsRight 14 = .ok (.lconst 0, 1) := by decide +kernel
theorem dL_planTurnsRight_15 : decode cL_planTurnsRight 15 = .ok (.lastore, 1) := by decide +kernel
theorem dL_planTurnsRight_16 : decode cL_planTurnsRight 16 = .ok (.goto 6, 3) := by decide +kernel
theorem dL_planTurnsRight_19 : decode cL_planTurnsRight 19 = .ok (.astore_n 3, 1) := by decide +kernel
theorem dL_planTurnsRight_20 : decode cL_planTurnsRight 20 = .ok (.iconst 1, 1) := by decide +kernel
theorem dL_planTurnsRight_21 : decode cL_planTurnsRight 21 = .ok (.ireturn, 1) := by decide +kernel
theorem dL_planTurnsRight_22 : decode cL_planTurnsRight 22 = .ok (.iconst 0, 1) := by decide +kernel
theorem dL_planTurnsRight_23 : decode cL_planTurnsRight 23 = .ok (.ireturn, 1) := by decide +kernel
set_option maxRecDepth 20000 in
theorem ggL_planLeadsTo_X0_planLeadsTo : GoodIn wsL_planLeadsTo wsX0_planLeadsTo := goodIn_ca (goodIn_r _ [6, 7, 8, 9, 5, 10, 11, 12, 13, 14, 15, 16, 17, 18, 19, 20, 21, 22, 23, 24, 25, 26, 27, 28, 29, 30, 31, 32, 33, 34, 35, 36, 37, 38, 39, 40, 41, 42, 43, 44, 45, 46, 47, 48, 49, 50, 51, 52, 53, 54, 55, 56, 57, 58, 59, 60, 61, 62, 63] (by decide +kernel) (by decide +kernel)) (goodIn_sub (fun _ h => List.mem_cons_of_mem _ (List.mem_append_right _ h)) (by decide +kernel))
set_option maxRecDepth 20000 in
theorem gL_planLeadsTo_X0_planLeadsTo : GoodIn wsL_planLeadsTo (wsV RL 87 RX0 yX0_planLeadsTo wsX0_planLeadsTo) := goodIn_app (goodIn_of _ (by decide +kernel)) ggL_planLeadsTo_X0_planLeadsTo
theorem dL_planLeadsTo_0 : decode cL_planLeadsTo 0 = .ok (.aload_n 2, 1) := by decide +kernel
theorem dL_planLeadsTo_1 : decode cL_planLeadsTo 1 = .ok (.iconst 0, 1) := by decide +kernel
theorem dL_planLeadsTo_2 : decode cL_planLeadsTo 2 = .ok (.aload_n 0, 1) := by decide +kernel
theorem dL_planLeadsTo_3 : decode cL_planLeadsTo 3 = .ok (.iload_n 1, 1) := by decide +kernel
theorem dL_planLeadsTo_4 : decode cL_planLeadsTo 4 = .ok (.invokevirtual 87, 3) := by decide +kernel
theorem dL_planLeadsTo_7 : decode cL_planLeadsTo 7 = .ok (.i2l, 1) := by decide +kernel
theorem dL_planLeadsTo_8 : decode cL_planLeadsTo 8 = .ok (.lastore, 1) := by decide +kernel
theorem dL_planLeadsTo_9 : decode cL_planLeadsTo 9 = .ok (.goto 6, 3) := by decide +kernel
theorem dL_planLeadsTo_12 : decode cL_planLeadsTo 12 = .ok (.astore_n 3, 1) := by decide +kernel
theorem dL_planLeadsTo_13 : decode cL_planLeadsTo 13 = .ok (.iconst 1, 1) := by decide +kernel
theorem dL_planLeadsTo_14 : decode cL_planLeadsTo 14 = .ok (.ireturn, 1) := by decide +kernel
theorem dL_planLeadsTo_15 : decode cL_planLeadsTo 15 = .ok (.iconst 0, 1) := by decide +kernel
theorem dL_planLeadsTo_16 : decode cL_planLeadsTo 16 = .ok (.ireturn, 1) := by decide +kernel
set_option maxRecDepth 20000 in
theorem ggL_hindsight_X0_hindsight : GoodIn wsL_hindsight wsX0_hindsight := goodIn_ca (goodIn_r _ [6, 7, 8, 9, 10, 5, 11, 12, 13, 14, 15, 16, 17, 18, 19, 20, 21, 22, 23, 24, 25, 26, 27, 28, 29, 30, 31, 32, 33, 34, 35, 36, 37, 38, 39, 40, 41, 42, 43, 44, 45, 46, 47] (by decide +kernel) (by decide +kernel)) (goodIn_sub (fun _ h => List.mem_cons_of_mem _ (List.mem_append_right _ h)) (by decide +kernel))
set_option maxRecDepth 20000 in
theorem gL_hindsight_X0_hindsight : GoodIn wsL_hindsight (wsV RL 90 RX0 yX0_hindsight wsX0_hindsight) := goodIn_app (goodIn_of _ (by decide +kernel)) ggL_hindsight_X0_hindsight
theorem dL_hindsight_0 : decode cL_hindsight 0 = .ok (.aload_n 2, 1) := by decide +kernel
theorem dL_hindsight_1 : decode cL_hindsight 1 = .ok (.iconst 0, 1) := by decide +kernel
theorem dL_hindsight_2 : decode cL_hindsight 2 = .ok (.aload_n 0, 1) := by decide +kernel
theorem dL_hindsight_3 : decode cL_hindsight 3 = .ok (.iload_n 1, 1) := by decide +kernel
theorem dL_hindsight_4 : decode cL_hindsight 4 = .ok (.invokevirtual 90, 3) := by decide +kernel
theorem dL_hindsight_7 : decode cL_hindsight 7 = .ok (.i2l, 1) := by decide +kernel
theorem dL_hindsight_8 : decode cL_hindsight 8 = .ok (.lastore, 1) := by decide +kernel
theorem dL_hindsight_9 : decode cL_hindsight 9 = .ok (.goto 6, 3) := by decide +kernel
theorem dL_hindsight_12 : decode cL_hindsight 12 = .ok (.astore_n 3, 1) := by decide +kernel
theorem dL_hindsight_13 : decode cL_hindsight 13 = .ok (.iconst 1, 1) := by decide +kernel
theorem dL_hindsight_14 : decode cL_hindsight 14 = .ok (.ireturn, 1) := by decide +kernel
theorem dL_hindsight_15 : decode cL_hindsight 15 = .ok (.iconst 0, 1) := by decide +kernel
theorem dL_hindsight_16 : decode cL_hindsight 16 = .ok (.ireturn, 1) := by decide +kernel
set_option maxRecDepth 20000 in
theorem ggL_regretOf_X0_regretOf : GoodIn wsL_regretOf wsX0_regretOf := goodIn_ca (goodIn_ca (goodIn_r _ [7, 8, 9, 10, 6, 11, 12, 13, 14, 15, 16, 17, 18, 19, 20, 21, 22, 23, 24, 25, 26, 27, 28, 29, 30, 31, 32, 33, 34, 35, 36, 37, 38, 39, 40, 41, 42, 43, 44, 45, 46, 47, 48, 49, 50, 51, 52, 53, 54, 55, 56, 57, 58, 59, 60, 61, 62, 63, 64, 65, 66, 67] (by decide +kernel) (by decide +kernel)) (goodIn_sub (fun _ h => List.mem_cons_of_mem _ (List.mem_append_left _ (List.mem_append_right _ h))) (by decide +kernel))) (goodIn_sub (fun _ h => List.mem_cons_of_mem _ (List.mem_append_right _ h)) (by decide +kernel))
set_option maxRecDepth 20000 in
theorem gL_regretOf_X0_regretOf : GoodIn wsL_regretOf (wsV RL 93 RX0 yX0_regretOf wsX0_regretOf) := goodIn_app (goodIn_of _ (by decide +kernel)) ggL_regretOf_X0_regretOf
theorem dL_regretOf_0 : decode cL_regretOf 0 = .ok (.aload_n 2, 1) := by decide +kernel
theorem dL_regretOf_1 : decode cL_regretOf 1 = .ok (.iconst 0, 1) := by decide +kernel
theorem dL_regretOf_2 : decode cL_regretOf 2 = .ok (.aload_n 0, 1) := by decide +kernel
theorem dL_regretOf_3 : decode cL_regretOf 3 = .ok (.iload_n 1, 1) := by decide +kernel
theorem dL_regretOf_4 : decode cL_regretOf 4 = .ok (.invokevirtual 93, 3) := by decide +kernel
theorem dL_regretOf_7 : decode cL_regretOf 7 = .ok (.i2l, 1) := by decide +kernel
theorem dL_regretOf_8 : decode cL_regretOf 8 = .ok (.lastore, 1) := by decide +kernel
theorem dL_regretOf_9 : decode cL_regretOf 9 = .ok (.goto 9, 3) := by decide +kernel
theorem dL_regretOf_12 : decode cL_regretOf 12 = .ok (.astore_n 3, 1) := by decide +kernel
theorem dL_regretOf_13 : decode cL_regretOf 13 = .ok (.iconst 1, 1) := by decide +kernel
theorem dL_regretOf_14 : decode cL_regretOf 14 = .ok (.ireturn, 1) := by decide +kernel
theorem dL_regretOf_15 : decode cL_regretOf 15 = .ok (.astore_n 3, 1) := by decide +kernel
theorem dL_regretOf_16 : decode cL_regretOf 16 = .ok (.iconst 2, 1) := by decide +kernel
theorem dL_regretOf_17 : decode cL_regretOf 17 = .ok (.ireturn, 1) := by decide +kernel
theorem dL_regretOf_18 : decode cL_regretOf 18 = .ok (.iconst 0, 1) := by decide +kernel
theorem dL_regretOf_19 : decode cL_regretOf 19 = .ok (.ireturn, 1) := by decide +kernel
set_option maxRecDepth 20000 in
theorem ggL_worstFork_X0_worstFork : GoodIn wsL_worstFork wsX0_worstFork := goodIn_ca (goodIn_ca (goodIn_r _ [7, 8, 9, 10, 11, 6, 12, 13, 14, 15, 16, 17, 18, 19, 20, 21, 22, 23, 24, 25, 26, 27, 28, 29, 30, 31, 32, 33, 34, 35, 36, 37, 38, 39, 40, 41, 42, 43, 44, 45, 46, 47, 48, 49, 50, 51, 52, 53, 54, 55, 56, 57, 58, 59, 60, 61, 62, 63] (by decide +kernel) (by decide +kernel)) (goodIn_sub (fun _ h => List.mem_cons_of_mem _ (List.mem_append_left _ (List.mem_append_right _ h))) (by decide +kernel))) (goodIn_sub (fun _ h => List.mem_cons_of_mem _ (List.mem_append_right _ h)) (by decide +kernel))
set_option maxRecDepth 20000 in
theorem gL_worstFork_X0_worstFork : GoodIn wsL_worstFork (wsV RL 96 RX0 yX0_worstFork wsX0_worstFork) := goodIn_app (goodIn_of _ (by decide +kernel)) ggL_worstFork_X0_worstFork
theorem dL_worstFork_0 : decode cL_worstFork 0 = .ok (.aload_n 2, 1) := by decide +kernel
theorem dL_worstFork_1 : decode cL_worstFork 1 = .ok (.iconst 0, 1) := by decide +kernel
theorem dL_worstFork_2 : decode cL_worstFork 2 = .ok (.aload_n 0, 1) := by decide +kernel
theorem dL_worstFork_3 : decode cL_worstFork 3 = .ok (.iload_n 1, 1) := by decide +kernel
theorem dL_worstFork_4 : decode cL_worstFork 4 = .ok (.invokevirtual 96, 3) := by decide +kernel
theorem dL_worstFork_7 : decode cL_worstFork 7 = .ok (.i2l, 1) := by decide +kernel
theorem dL_worstFork_8 : decode cL_worstFork 8 = .ok (.lastore, 1) := by decide +kernel
theorem dL_worstFork_9 : decode cL_worstFork 9 = .ok (.goto 9, 3) := by decide +kernel
theorem dL_worstFork_12 : decode cL_worstFork 12 = .ok (.astore_n 3, 1) := by decide +kernel
theorem dL_worstFork_13 : decode cL_worstFork 13 = .ok (.iconst 1, 1) := by decide +kernel
theorem dL_worstFork_14 : decode cL_worstFork 14 = .ok (.ireturn, 1) := by decide +kernel
theorem dL_worstFork_15 : decode cL_worstFork 15 = .ok (.astore_n 3, 1) := by decide +kernel
theorem dL_worstFork_16 : decode cL_worstFork 16 = .ok (.iconst 2, 1) := by decide +kernel
theorem dL_worstFork_17 : decode cL_worstFork 17 = .ok (.ireturn, 1) := by decide +kernel
theorem dL_worstFork_18 : decode cL_worstFork 18 = .ok (.iconst 0, 1) := by decide +kernel
theorem dL_worstFork_19 : decode cL_worstFork 19 = .ok (.ireturn, 1) := by decide +kernel

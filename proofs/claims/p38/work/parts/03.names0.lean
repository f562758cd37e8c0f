theorem dX0_init_0 : decode cX0_init 0 = .ok (.aload_n 0, 1) := by decide +kernel
theorem dX0_init_1 : decode cX0_init 1 = .ok (.invokespecial 1, 3) := by decide +kernel
theorem dX0_init_4 : decode cX0_init 4 = .ok (.aload_n 0, 1) := by decide +kernel
theorem dX0_init_5 : decode cX0_init 5 = .ok (.bipush 40, 2) := by decide +kernel
theorem dX0_init_7 : decode cX0_init 7 = .ok (.newarray .int, 2) := by decide +kernel
theorem dX0_init_9 : decode cX0_init 9 = .ok (.putfield 9, 3) := by decide +kernel
theorem dX0_init_12 : decode cX0_init 12 = .ok (.aload_n 0, 1) := by decide +kernel
theorem dX0_init_13 : decode cX0_init 13 = .ok (.bipush 40, 2) := by decide +kernel
theorem dX0_init_15 : decode cX0_init 15 = .ok (.newarray .int, 2) := by decide +kernel
theorem dX0_init_17 : decode cX0_init 17 = .ok (.putfield 13, 3) := by decide +kernel
theorem dX0_init_20 : decode cX0_init 20 = .ok (.aload_n 0, 1) := by decide +kernel
theorem dX0_init_21 : decode cX0_init 21 = .ok (.bipush 40, 2) := by decide +kernel
theorem dX0_init_23 : decode cX0_init 23 = .ok (.newarray .int, 2) := by decide +kernel
theorem dX0_init_25 : decode cX0_init 25 = .ok (.putfield 16, 3) := by decide +kernel
theorem dX0_init_28 : decode cX0_init 28 = .ok (.aload_n 0, 1) := by decide +kernel
theorem dX0_init_29 : decode cX0_init 29 = .ok (.bipush 40, 2) := by decide +kernel
theorem dX0_init_31 : decode cX0_init 31 = .ok (.newarray .int, 2) := by decide +kernel
theorem dX0_init_33 : decode cX0_init 33 = .ok (.putfield 19, 3) := by decide +kernel
theorem dX0_init_36 : decode cX0_init 36 = .ok (.aload_n 0, 1) := by decide +kernel
theorem dX0_init_37 : decode cX0_init 37 = .ok (.bipush 40, 2) := by decide +kernel
theorem dX0_init_39 : decode cX0_init 39 = .ok (.newarray .int, 2) := by decide +kernel
theorem dX0_init_41 : decode cX0_init 41 = .ok (.putfield 22, 3) := by decide +kernel
theorem dX0_init_44 : decode cX0_init 44 = .ok (.aload_n 0, 1) := by decide +kernel
theorem dX0_init_45 : decode cX0_init 45 = .ok (.bipush 40, 2) := by decide +kernel
theorem dX0_init_47 : decode cX0_init 47 = .ok (.newarray .int, 2) := by decide +kernel
theorem dX0_init_49 : decode cX0_init 49 = .ok (.putfield 25, 3) := by decide +kernel
theorem dX0_init_52 : decode cX0_init 52 = .ok (.aload_n 0, 1) := by decide +kernel
theorem dX0_init_53 : decode cX0_init 53 = .ok (.bipush 40, 2) := by decide +kernel
theorem dX0_init_55 : decode cX0_init 55 = .ok (.newarray .int, 2) := by decide +kernel
theorem dX0_init_57 : decode cX0_init 57 = .ok (.putfield 28, 3) := by decide +kernel
theorem dX0_init_60 : decode cX0_init 60 = .ok (.aload_n 0, 1) := by decide +kernel
theorem dX0_init_61 : decode cX0_init 61 = .ok (.bipush 40, 2) := by decide +kernel
theorem dX0_init_63 : decode cX0_init 63 = .ok (.newarray .int, 2) := by decide +kernel
theorem dX0_init_65 : decode cX0_init 65 = .ok (.putfield 31, 3) := by decide +kernel
theorem dX0_init_68 : decode cX0_init 68 = .ok (.aload_n 0, 1) := by decide +kernel
theorem dX0_init_69 : decode cX0_init 69 = .ok (.bipush 40, 2) := by decide +kernel
theorem dX0_init_71 : decode cX0_init 71 = .ok (.newarray .int, 2) := by decide +kernel
theorem dX0_init_73 : decode cX0_init 73 = .ok (.putfield 34, 3) := by decide +kernel
theorem dX0_init_76 : decode cX0_init 76 = .ok (.aload_n 0, 1) := by decide +kernel
theorem dX0_init_77 : decode cX0_init 77 = .ok (.bipush 40, 2) := by decide +kernel
theorem dX0_init_79 : decode cX0_init 79 = .ok (.newarray .long, 2) := by decide +kernel
theorem dX0_init_81 : decode cX0_init 81 = .ok (.putfield 37, 3) := by decide +kernel
theorem dX0_init_84 : decode cX0_init 84 = .ok (.aload_n 0, 1) := by decide +kernel
theorem dX0_init_85 : decode cX0_init 85 = .ok (.bipush 8, 2) := by decide +kernel
theorem dX0_init_87 : decode cX0_init 87 = .ok (.newarray .int, 2) := by decide +kernel
theorem dX0_init_89 : decode cX0_init 89 = .ok (.putfield 41, 3) := by decide +kernel
theorem dX0_init_92 : decode cX0_init 92 = .ok (.aload_n 0, 1) := by decide +kernel
theorem dX0_init_93 : decode cX0_init 93 = .ok (.bipush 8, 2) := by decide +kernel
theorem dX0_init_95 : decode cX0_init 95 = .ok (.newarray .int, 2) := by decide +kernel
theorem dX0_init_97 : decode cX0_init 97 = .ok (.putfield 44, 3) := by decide +kernel
theorem dX0_init_100 : decode cX0_init 100 = .ok (.aload_n 0, 1) := by decide +kernel
theorem dX0_init_101 : decode cX0_init 101 = .ok (.sipush 320, 3) := by decide +kernel
theorem dX0_init_104 : decode cX0_init 104 = .ok (.newarray .int, 2) := by decide +kernel
theorem dX0_init_106 : decode cX0_init 106 = .ok (.putfield 47, 3) := by decide +kernel
theorem dX0_init_109 : decode cX0_init 109 = .ok (.return_, 1) := by decide +kernel
set_option maxRecDepth 20000 in
theorem ggX0_addExam_X0_requireRoom : GoodIn wsX0_addExam wsX0_requireRoom := goodIn_ca (goodIn_r _ [13, 14, 15, 3, 39, 40, 41, 42, 43, 44, 45, 46, 47, 48, 49, 50, 51, 52, 53, 54, 55, 56] (by decide +kernel) (by decide +kernel)) (goodIn_sub (fun _ h => List.mem_cons_of_mem _ (List.mem_append_right _ h)) (by decide +kernel))
set_option maxRecDepth 20000 in
theorem gX0_addExam_X0_requireRoom : GoodIn wsX0_addExam (wsV RX0 57 RX0 yX0_requireRoom wsX0_requireRoom) := goodIn_app (goodIn_of _ (by decide +kernel)) ggX0_addExam_X0_requireRoom
set_option maxRecDepth 20000 in
theorem ggX0_addExam_X0_bitOf : GoodIn wsX0_addExam wsX0_bitOf := goodIn_r _ [18] (by decide +kernel) (by decide +kernel)
set_option maxRecDepth 20000 in
theorem gX0_addExam_X0_bitOf : GoodIn wsX0_addExam (va_wsS RX0 68 yX0_bitOf wsX0_bitOf) := goodIn_app (goodIn_of _ (by decide +kernel)) ggX0_addExam_X0_bitOf
set_option maxRecDepth 20000 in
theorem ggX0_addExam_X0_put : GoodIn wsX0_addExam wsX0_put := goodIn_r _ [21] (by decide +kernel) (by decide +kernel)
set_option maxRecDepth 20000 in
theorem gX0_addExam_X0_put : GoodIn wsX0_addExam (va_wsS RX0 72 yX0_put wsX0_put) := goodIn_app (goodIn_of _ (by decide +kernel)) ggX0_addExam_X0_put
set_option maxRecDepth 20000 in
theorem ggX0_addExam_X0_putBits : GoodIn wsX0_addExam wsX0_putBits := goodIn_r _ [24] (by decide +kernel) (by decide +kernel)
set_option maxRecDepth 20000 in
theorem gX0_addExam_X0_putBits : GoodIn wsX0_addExam (va_wsS RX0 76 yX0_putBits wsX0_putBits) := goodIn_app (goodIn_of _ (by decide +kernel)) ggX0_addExam_X0_putBits
set_option maxRecDepth 20000 in
theorem ggX0_addExam_X0_settleExam : GoodIn wsX0_addExam wsX0_settleExam := goodIn_r _ [28, 7, 29, 5, 30, 6, 31, 32, 33, 34, 12, 35, 36, 37, 38, 19, 20, 21, 39, 40, 41, 42, 43, 44, 45, 46, 47, 48, 49, 50, 51, 52, 53, 54, 55, 56] (by decide +kernel) (by decide +kernel)
set_option maxRecDepth 20000 in
theorem gX0_addExam_X0_settleExam : GoodIn wsX0_addExam (wsV RX0 80 RX0 yX0_settleExam wsX0_settleExam) := goodIn_app (goodIn_of _ (by decide +kernel)) ggX0_addExam_X0_settleExam
theorem dX0_addExam_0 : decode cX0_addExam 0 = .ok (.iload_n 1, 1) := by decide +kernel
theorem dX0_addExam_1 : decode cX0_addExam 1 = .ok (.ifCond .lt 14, 3) := by decide +kernel
theorem dX0_addExam_4 : decode cX0_addExam 4 = .ok (.iload_n 2, 1) := by decide +kernel
theorem dX0_addExam_5 : decode cX0_addExam 5 = .ok (.bipush 20, 2) := by decide +kernel
theorem dX0_addExam_7 : decode cX0_addExam 7 = .ok (.if_icmp .gt 8, 3) := by decide +kernel
theorem dX0_addExam_10 : decode cX0_addExam 10 = .ok (.iload_n 2, 1) := by decide +kernel
theorem dX0_addExam_11 : decode cX0_addExam 11 = .ok (.iload_n 1, 1) := by decide +kernel
theorem dX0_addExam_12 : decode cX0_addExam 12 = .ok (.if_icmp .ge 13, 3) := by decide +kernel
theorem dX0_addExam_15 : decode cX0_addExam 15 = .ok (.new 50, 3) := by decide +kernel
theorem dX0_addExam_18 : decode cX0_addExam 18 = .ok (.dup, 1) := by decide +kernel
theorem dX0_addExam_19 : decode cX0_addExam 19 = .ok (.ldc 52, 2) := by decide +kernel
theorem dX0_addExam_21 : decode cX0_addExam 21 = .ok (.invokespecial 54, 3) := by decide +kernel
theorem dX0_addExam_24 : decode cX0_addExam 24 = .ok (.athrow, 1) := by decide +kernel
theorem dX0_addExam_25 : decode cX0_addExam 25 = .ok (.aload_n 0, 1) := by decide +kernel
theorem dX0_addExam_26 : decode cX0_addExam 26 = .ok (.invokevirtual 57, 3) := by decide +kernel
theorem dX0_addExam_29 : decode cX0_addExam 29 = .ok (.aload_n 0, 1) := by decide +kernel
theorem dX0_addExam_30 : decode cX0_addExam 30 = .ok (.getfield 60, 3) := by decide +kernel
theorem dX0_addExam_33 : decode cX0_addExam 33 = .ok (.istore_n 3, 1) := by decide +kernel
theorem dX0_addExam_34 : decode cX0_addExam 34 = .ok (.aload_n 0, 1) := by decide +kernel
theorem dX0_addExam_35 : decode cX0_addExam 35 = .ok (.dup, 1) := by decide +kernel
theorem dX0_addExam_36 : decode cX0_addExam 36 = .ok (.getfield 64, 3) := by decide +kernel
theorem dX0_addExam_39 : decode cX0_addExam 39 = .ok (.iload_n 3, 1) := by decide +kernel
theorem dX0_addExam_40 : decode cX0_addExam 40 = .ok (.invokestatic 68, 3) := by decide +kernel
theorem dX0_addExam_43 : decode cX0_addExam 43 = .ok (.lor, 1) := by decide +kernel
theorem dX0_addExam_44 : decode cX0_addExam 44 = .ok (.putfield 64, 3) := by decide +kernel
theorem dX0_addExam_47 : decode cX0_addExam 47 = .ok (.aload_n 0, 1) := by decide +kernel
theorem dX0_addExam_48 : decode cX0_addExam 48 = .ok (.getfield 9, 3) := by decide +kernel
theorem dX0_addExam_51 : decode cX0_addExam 51 = .ok (.iload_n 3, 1) := by decide +kernel
theorem dX0_addExam_52 : decode cX0_addExam 52 = .ok (.iload_n 1, 1) := by decide +kernel
theorem dX0_addExam_53 : decode cX0_addExam 53 = .ok (.invokestatic 72, 3) := by decide +kernel
theorem dX0_addExam_56 : decode cX0_addExam 56 = .ok (.aload_n 0, 1) := by decide +kernel
theorem dX0_addExam_57 : decode cX0_addExam 57 = .ok (.getfield 13, 3) := by decide +kernel
theorem dX0_addExam_60 : decode cX0_addExam 60 = .ok (.iload_n 3, 1) := by decide +kernel
theorem dX0_addExam_61 : decode cX0_addExam 61 = .ok (.iload_n 2, 1) := by decide +kernel
theorem dX0_addExam_62 : decode cX0_addExam 62 = .ok (.invokestatic 72, 3) := by decide +kernel
theorem dX0_addExam_65 : decode cX0_addExam 65 = .ok (.aload_n 0, 1) := by decide +kernel
theorem dX0_addExam_66 : decode cX0_addExam 66 = .ok (.getfield 25, 3) := by decide +kernel
theorem dX0_addExam_69 : decode cX0_addExam 69 = .ok (.iload_n 3, 1) := by decide +kernel
theorem dX0_addExam_70 : decode cX0_addExam 70 = .ok (.iconst (-1), 1) := by decide +kernel
theorem dX0_addExam_71 : decode cX0_addExam 71 = .ok (.invokestatic 72, 3) := by decide +kernel
theorem dX0_addExam_74 : decode cX0_addExam 74 = .ok (.aload_n 0, 1) := by decide +kernel
theorem dX0_addExam_75 : decode cX0_addExam 75 = .ok (.getfield 37, 3) := by decide +kernel
theorem dX0_addExam_78 : decode cX0_addExam 78 = .ok (.iload_n 3, 1) := by decide +kernel
theorem dX0_addExam_79 : decode cX0_addExam 79 = .ok (.iload_n 3, 1) := by decide +kernel
theorem dX0_addExam_80 : decode cX0_addExam 80 = .ok (.invokestatic 68, 3) := by decide +kernel
theorem dX0_addExam_83 : decode cX0_addExam 83 = .ok (.invokestatic 76, 3) := by decide +kernel
theorem dX0_addExam_86 : decode cX0_addExam 86 = .ok (.aload_n 0, 1) := by decide +kernel
theorem dX0_addExam_87 : decode cX0_addExam 87 = .ok (.iload_n 3, 1) := by decide +kernel
theorem dX0_addExam_88 : decode cX0_addExam 88 = .ok (.invokevirtual 80, 3) := by decide +kernel
theorem dX0_addExam_91 : decode cX0_addExam 91 = .ok (.aload_n 0, 1) := by decide +kernel
theorem dX0_addExam_92 : decode cX0_addExam 92 = .ok (.dup, 1) := by decide +kernel
theorem dX0_addExam_93 : decode cX0_addExam 93 = .ok (.getfield 60, 3) := by decide +kernel
theorem dX0_addExam_96 : decode cX0_addExam 96 = .ok (.iconst 1, 1) := by decide +kernel
theorem dX0_addExam_97 : decode cX0_addExam 97 = .ok (.iadd, 1) := by decide +kernel
theorem dX0_addExam_98 : decode cX0_addExam 98 = .ok (.putfield 60, 3) := by decide +kernel
theorem dX0_addExam_101 : decode cX0_addExam 101 = .ok (.iload_n 3, 1) := by decide +kernel
theorem dX0_addExam_102 : decode cX0_addExam 102 = .ok (.ireturn, 1) := by decide +kernel
set_option maxRecDepth 20000 in
theorem ggX0_addFork_X0_requirePlace : GoodIn wsX0_addFork wsX0_requirePlace := goodIn_ca (goodIn_r _ [11, 12, 13, 1, 55, 56, 57, 58, 59, 60, 61, 62, 63, 64, 65, 66, 67, 68, 69, 70, 71, 72] (by decide +kernel) (by decide +kernel)) (goodIn_sub (fun _ h => List.mem_cons_of_mem _ (List.mem_append_left _ (List.mem_append_left _ (List.mem_append_right _ h)))) (by decide +kernel))
set_option maxRecDepth 20000 in
theorem gX0_addFork_X0_requirePlace : GoodIn wsX0_addFork (wsV RX0 84 RX0 yX0_requirePlace wsX0_requirePlace) := goodIn_app (goodIn_of _ (by decide +kernel)) ggX0_addFork_X0_requirePlace
set_option maxRecDepth 20000 in
theorem ggX0_addFork_X0_requireWeight : GoodIn wsX0_addFork wsX0_requireWeight := goodIn_ca (goodIn_r _ [16, 17, 18] (by decide +kernel) (by decide +kernel)) (goodIn_sub (fun _ h => List.mem_cons_of_mem _ (List.mem_append_left _ (List.mem_append_right _ h))) (by decide +kernel))
set_option maxRecDepth 20000 in
theorem gX0_addFork_X0_requireWeight : GoodIn wsX0_addFork (va_wsS RX0 87 yX0_requireWeight wsX0_requireWeight) := goodIn_app (goodIn_of _ (by decide +kernel)) ggX0_addFork_X0_requireWeight
set_option maxRecDepth 20000 in
theorem ggX0_addFork_X0_requireRoom : GoodIn wsX0_addFork wsX0_requireRoom := goodIn_ca (goodIn_r _ [22, 23, 24, 1, 55, 56, 57, 58, 59, 60, 61, 62, 63, 64, 65, 66, 67, 68, 69, 70, 71, 72] (by decide +kernel) (by decide +kernel)) (goodIn_sub (fun _ h => List.mem_cons_of_mem _ (List.mem_append_right _ h)) (by decide +kernel))
set_option maxRecDepth 20000 in
theorem gX0_addFork_X0_requireRoom : GoodIn wsX0_addFork (wsV RX0 57 RX0 yX0_requireRoom wsX0_requireRoom) := goodIn_app (goodIn_of _ (by decide +kernel)) ggX0_addFork_X0_requireRoom
set_option maxRecDepth 20000 in
theorem ggX0_addFork_X0_put : GoodIn wsX0_addFork wsX0_put := goodIn_r _ [27] (by decide +kernel) (by decide +kernel)
set_option maxRecDepth 20000 in
theorem gX0_addFork_X0_put : GoodIn wsX0_addFork (va_wsS RX0 72 yX0_put wsX0_put) := goodIn_app (goodIn_of _ (by decide +kernel)) ggX0_addFork_X0_put
set_option maxRecDepth 20000 in
theorem ggX0_addFork_X0_bitOf : GoodIn wsX0_addFork wsX0_bitOf := goodIn_r _ [30] (by decide +kernel) (by decide +kernel)
set_option maxRecDepth 20000 in
theorem gX0_addFork_X0_bitOf : GoodIn wsX0_addFork (va_wsS RX0 68 yX0_bitOf wsX0_bitOf) := goodIn_app (goodIn_of _ (by decide +kernel)) ggX0_addFork_X0_bitOf
set_option maxRecDepth 20000 in
theorem ggX0_addFork_X0_bitsAt : GoodIn wsX0_addFork wsX0_bitsAt := goodIn_r _ [33] (by decide +kernel) (by decide +kernel)
set_option maxRecDepth 20000 in
theorem gX0_addFork_X0_bitsAt : GoodIn wsX0_addFork (va_wsS RX0 90 yX0_bitsAt wsX0_bitsAt) := goodIn_app (goodIn_of _ (by decide +kernel)) ggX0_addFork_X0_bitsAt
set_option maxRecDepth 20000 in
theorem ggX0_addFork_X0_putBits : GoodIn wsX0_addFork wsX0_putBits := goodIn_r _ [36] (by decide +kernel) (by decide +kernel)
set_option maxRecDepth 20000 in
theorem gX0_addFork_X0_putBits : GoodIn wsX0_addFork (va_wsS RX0 76 yX0_putBits wsX0_putBits) := goodIn_app (goodIn_of _ (by decide +kernel)) ggX0_addFork_X0_putBits
set_option maxRecDepth 20000 in
theorem ggX0_addFork_X0_settleFork : GoodIn wsX0_addFork wsX0_settleFork := goodIn_r _ [40, 41, 42, 43, 44, 45, 46, 10, 47, 2, 3, 48, 49, 50, 51, 52, 53, 54, 25, 26, 27, 55, 56, 57, 58, 59, 60, 61, 62, 63, 64, 65, 66, 67, 68, 69, 70, 71, 72] (by decide +kernel) (by decide +kernel)
set_option maxRecDepth 20000 in
theorem gX0_addFork_X0_settleFork : GoodIn wsX0_addFork (wsV RX0 94 RX0 yX0_settleFork wsX0_settleFork) := goodIn_app (goodIn_of _ (by decide +kernel)) ggX0_addFork_X0_settleFork
theorem dX0_addFork_0 : decode cX0_addFork 0 = .ok (.aload_n 0, 1) := by decide +kernel
theorem dX0_addFork_1 : decode cX0_addFork 1 = .ok (.iload_n 1, 1) := by decide +kernel
theorem dX0_addFork_2 : decode cX0_addFork 2 = .ok (.invokevirtual 84, 3) := by decide +kernel
theorem dX0_addFork_5 : decode cX0_addFork 5 = .ok (.aload_n 0, 1) := by decide +kernel
theorem dX0_addFork_6 : decode cX0_addFork 6 = .ok (.iload_n 2, 1) := by decide +kernel
theorem dX0_addFork_7 : decode cX0_addFork 7 = .ok (.invokevirtual 84, 3) := by decide +kernel
theorem dX0_addFork_10 : decode cX0_addFork 10 = .ok (.iload_n 3, 1) := by decide +kernel
theorem dX0_addFork_11 : decode cX0_addFork 11 = .ok (.invokestatic 87, 3) := by decide +kernel
theorem dX0_addFork_14 : decode cX0_addFork 14 = .ok (.aload_n 0, 1) := by decide +kernel
theorem dX0_addFork_15 : decode cX0_addFork 15 = .ok (.invokevirtual 57, 3) := by decide +kernel
theorem dX0_addFork_18 : decode cX0_addFork 18 = .ok (.aload_n 0, 1) := by decide +kernel
theorem dX0_addFork_19 : decode cX0_addFork 19 = .ok (.getfield 60, 3) := by decide +kernel
theorem dX0_addFork_22 : decode cX0_addFork 22 = .ok (.istore 4, 2) := by decide +kernel
theorem dX0_addFork_24 : decode cX0_addFork 24 = .ok (.aload_n 0, 1) := by decide +kernel
theorem dX0_addFork_25 : decode cX0_addFork 25 = .ok (.getfield 16, 3) := by decide +kernel
theorem dX0_addFork_28 : decode cX0_addFork 28 = .ok (.iload 4, 2) := by decide +kernel
theorem dX0_addFork_30 : decode cX0_addFork 30 = .ok (.iload_n 1, 1) := by decide +kernel
theorem dX0_addFork_31 : decode cX0_addFork 31 = .ok (.invokestatic 72, 3) := by decide +kernel
theorem dX0_addFork_34 : decode cX0_addFork 34 = .ok (.aload_n 0, 1) := by decide +kernel
theorem dX0_addFork_35 : decode cX0_addFork 35 = .ok (.getfield 19, 3) := by decide +kernel
theorem dX0_addFork_38 : decode cX0_addFork 38 = .ok (.iload 4, 2) := by decide +kernel
theorem dX0_addFork_40 : decode cX0_addFork 40 = .ok (.iload_n 2, 1) := by decide +kernel
theorem dX0_addFork_41 : decode cX0_addFork 41 = .ok (.invokestatic 72, 3) := by decide +kernel
theorem dX0_addFork_44 : decode cX0_addFork 44 = .ok (.aload_n 0, 1) := by decide +kernel
theorem dX0_addFork_45 : decode cX0_addFork 45 = .ok (.getfield 22, 3) := by decide +kernel
theorem dX0_addFork_48 : decode cX0_addFork 48 = .ok (.iload 4, 2) := by decide +kernel
theorem dX0_addFork_50 : decode cX0_addFork 50 = .ok (.iload_n 3, 1) := by decide +kernel
theorem dX0_addFork_51 : decode cX0_addFork 51 = .ok (.invokestatic 72, 3) := by decide +kernel
theorem dX0_addFork_54 : decode cX0_addFork 54 = .ok (.aload_n 0, 1) := by decide +kernel
theorem dX0_addFork_55 : decode cX0_addFork 55 = .ok (.getfield 25, 3) := by decide +kernel
theorem dX0_addFork_58 : decode cX0_addFork 58 = .ok (.iload 4, 2) := by decide +kernel
theorem dX0_addFork_60 : decode cX0_addFork 60 = .ok (.iconst (-1), 1) := by decide +kernel
theorem dX0_addFork_61 : decode cX0_addFork 61 = .ok (.invokestatic 72, 3) := by decide +kernel
theorem dX0_addFork_64 : decode cX0_addFork 64 = .ok (.aload_n 0, 1) := by decide +kernel
theorem dX0_addFork_65 : decode cX0_addFork 65 = .ok (.getfield 37, 3) := by decide +kernel
theorem dX0_addFork_68 : decode cX0_addFork 68 = .ok (.iload 4, 2) := by decide +kernel
theorem dX0_addFork_70 : decode cX0_addFork 70 = .ok (.iload 4, 2) := by decide +kernel
theorem dX0_addFork_72 : decode cX0_addFork 72 = .ok (.invokestatic 68, 3) := by decide +kernel
theorem dX0_addFork_75 : decode cX0_addFork 75 = .ok (.aload_n 0, 1) := by decide +kernel
theorem dX0_addFork_76 : decode cX0_addFork 76 = .ok (.getfield 37, 3) := by decide +kernel
theorem dX0_addFork_79 : decode cX0_addFork 79 = .ok (.iload_n 1, 1) := by decide +kernel
theorem dX0_addFork_80 : decode cX0_addFork 80 = .ok (.invokestatic 90, 3) := by decide +kernel
theorem dX0_addFork_83 : decode cX0_addFork 83 = .ok (.lor, 1) := by decide +kernel
theorem dX0_addFork_84 : decode cX0_addFork 84 = .ok (.aload_n 0, 1) := by decide +kernel
theorem dX0_addFork_85 : decode cX0_addFork 85 = .ok (.getfield 37, 3) := by decide +kernel
theorem dX0_addFork_88 : decode cX0_addFork 88 = .ok (.iload_n 2, 1) := by decide +kernel
theorem dX0_addFork_89 : decode cX0_addFork 89 = .ok (.invokestatic 90, 3) := by decide +kernel
theorem dX0_addFork_92 : decode cX0_addFork 92 = .ok (.lor, 1) := by decide +kernel
theorem dX0_addFork_93 : decode cX0_addFork 93 = .ok (.invokestatic 76, 3) := by decide +kernel
theorem dX0_addFork_96 : decode cX0_addFork 96 = .ok (.aload_n 0, 1) := by decide +kernel
theorem dX0_addFork_97 : decode cX0_addFork 97 = .ok (.iload 4, 2) := by decide +kernel
theorem dX0_addFork_99 : decode cX0_addFork 99 = .ok (.invokevirtual 94, 3) := by decide +kernel
theorem dX0_addFork_102 : decode cX0_addFork 102 = .ok (.aload_n 0, 1) := by decide +kernel
theorem dX0_addFork_103 : decode cX0_addFork 103 = .ok (.dup, 1) := by decide +kernel
theorem dX0_addFork_104 : decode cX0_addFork 104 = .ok (.getfield 60, 3) := by decide +kernel
theorem dX0_addFork_107 : decode cX0_addFork 107 = .ok (.iconst 1, 1) := by decide +kernel
theorem dX0_addFork_108 : decode cX0_addFork 108 = .ok (.iadd, 1) := by decide +kernel
theorem dX0_addFork_109 : decode cX0_addFork 109 = .ok (.putfield 60, 3) := by decide +kernel
theorem dX0_addFork_112 : decode cX0_addFork 112 = .ok (.iload 4, 2) := by decide +kernel
theorem dX0_addFork_114 : decode cX0_addFork 114 = .ok (.ireturn, 1) := by decide +kernel
set_option maxRecDepth 20000 in
theorem ggX0_grade_X0_requireExam : GoodIn wsX0_grade wsX0_requireExam := goodIn_ca (goodIn_r _ [14, 15, 16, 17, 18, 19, 13, 20, 21, 22, 23, 24, 25, 26, 27, 28, 29, 65, 66, 67, 68, 69, 70, 71, 72, 73, 74, 75, 76, 77, 78, 79, 80, 81, 82] (by decide +kernel) (by decide +kernel)) (goodIn_sub (fun _ h => List.mem_cons_of_mem _ (List.mem_append_right _ h)) (by decide +kernel))
set_option maxRecDepth 20000 in
theorem gX0_grade_X0_requireExam : GoodIn wsX0_grade (wsV RX0 97 RX0 yX0_requireExam wsX0_requireExam) := goodIn_app (goodIn_of _ (by decide +kernel)) ggX0_grade_X0_requireExam
set_option maxRecDepth 20000 in
theorem ggX0_grade_X0_at : GoodIn wsX0_grade wsX0_at := goodIn_r _ [32] (by decide +kernel) (by decide +kernel)
set_option maxRecDepth 20000 in
theorem gX0_grade_X0_at : GoodIn wsX0_grade (va_wsS RX0 100 yX0_at wsX0_at) := goodIn_app (goodIn_of _ (by decide +kernel)) ggX0_grade_X0_at
set_option maxRecDepth 20000 in
theorem ggX0_grade_X0_hasGrade : GoodIn wsX0_grade wsX0_hasGrade := goodIn_r _ [36, 7, 30, 31, 13, 32, 65, 66, 67, 68, 69, 70, 71, 72, 73, 74, 75, 76, 77, 78, 79, 80, 81, 82] (by decide +kernel) (by decide +kernel)
set_option maxRecDepth 20000 in
theorem gX0_grade_X0_hasGrade : GoodIn wsX0_grade (wsV RX0 106 RX0 yX0_hasGrade wsX0_hasGrade) := goodIn_app (goodIn_of _ (by decide +kernel)) ggX0_grade_X0_hasGrade
set_option maxRecDepth 20000 in
theorem ggX0_grade_X0_put : GoodIn wsX0_grade wsX0_put := goodIn_r _ [39] (by decide +kernel) (by decide +kernel)
set_option maxRecDepth 20000 in
theorem gX0_grade_X0_put : GoodIn wsX0_grade (va_wsS RX0 72 yX0_put wsX0_put) := goodIn_app (goodIn_of _ (by decide +kernel)) ggX0_grade_X0_put
set_option maxRecDepth 20000 in
theorem ggX0_grade_X0_settleExam : GoodIn wsX0_grade wsX0_settleExam := goodIn_r _ [43, 7, 44, 5, 45, 6, 46, 33, 34, 35, 13, 36, 30, 31, 32, 37, 38, 39, 65, 66, 67, 68, 69, 70, 71, 72, 73, 74, 75, 76, 77, 78, 79, 80, 81, 82] (by decide +kernel) (by decide +kernel)
set_option maxRecDepth 20000 in
theorem gX0_grade_X0_settleExam : GoodIn wsX0_grade (wsV RX0 80 RX0 yX0_settleExam wsX0_settleExam) := goodIn_app (goodIn_of _ (by decide +kernel)) ggX0_grade_X0_settleExam
set_option maxRecDepth 20000 in
theorem ggX0_grade_X0_settleForksAfter : GoodIn wsX0_grade wsX0_settleForksAfter := goodIn_r _ [50, 21, 22, 23, 24, 13, 25, 26, 27, 28, 29, 51, 52, 53, 54, 44, 45, 46, 55, 56, 57, 58, 59, 60, 61, 62, 63, 64, 30, 31, 32, 37, 38, 39, 65, 66, 67, 68, 69, 70, 71, 72, 73, 74, 75, 76, 77, 78, 79, 80, 81, 82] (by decide +kernel) (by decide +kernel)
set_option maxRecDepth 20000 in
theorem gX0_grade_X0_settleForksAfter : GoodIn wsX0_grade (wsV RX0 121 RX0 yX0_settleForksAfter wsX0_settleForksAfter) := goodIn_app (goodIn_of _ (by decide +kernel)) ggX0_grade_X0_settleForksAfter
theorem dX0_grade_0 : decode cX0_grade 0 = .ok (.aload_n 0, 1) := by decide +kernel
theorem dX0_grade_1 : decode cX0_grade 1 = .ok (.iload_n 1, 1) := by decide +kernel
theorem dX0_grade_2 : decode cX0_grade 2 = .ok (.invokevirtual 97, 3) := by decide +kernel
theorem dX0_grade_5 : decode cX0_grade 5 = .ok (.iload_n 2, 1) := by decide +kernel
theorem dX0_grade_6 : decode cX0_grade 6 = .ok (.aload_n 0, 1) := by decide +kernel
theorem dX0_grade_7 : decode cX0_grade 7 = .ok (.getfield 9, 3) := by decide +kernel
theorem dX0_grade_10 : decode cX0_grade 10 = .ok (.iload_n 1, 1) := by decide +kernel
theorem dX0_grade_11 : decode cX0_grade 11 = .ok (.invokestatic 100, 3) := by decide +kernel
theorem dX0_grade_14 : decode cX0_grade 14 = .ok (.if_icmp .lt 15, 3) := by decide +kernel
theorem dX0_grade_17 : decode cX0_grade 17 = .ok (.iload_n 2, 1) := by decide +kernel
theorem dX0_grade_18 : decode cX0_grade 18 = .ok (.aload_n 0, 1) := by decide +kernel
theorem dX0_grade_19 : decode cX0_grade 19 = .ok (.getfield 13, 3) := by decide +kernel
theorem dX0_grade_22 : decode cX0_grade 22 = .ok (.iload_n 1, 1) := by decide +kernel
theorem dX0_grade_23 : decode cX0_grade 23 = .ok (.invokestatic 100, 3) := by decide +kernel
theorem dX0_grade_26 : decode cX0_grade 26 = .ok (.if_icmp .le 13, 3) := by decide +kernel
theorem dX0_grade_29 : decode cX0_grade 29 = .ok (.new 50, 3) := by decide +kernel
theorem dX0_grade_32 : decode cX0_grade 32 = .ok (.dup, 1) := by decide +kernel
theorem dX0_grade_33 : decode cX0_grade 33 = .ok (.ldc 104, 2) := by decide +kernel
theorem dX0_grade_35 : decode cX0_grade 35 = .ok (.invokespecial 54, 3) := by decide +kernel
theorem dX0_grade_38 : decode cX0_grade 38 = .ok (.athrow, 1) := by decide +kernel
theorem dX0_grade_39 : decode cX0_grade 39 = .ok (.aload_n 0, 1) := by decide +kernel
theorem dX0_grade_40 : decode cX0_grade 40 = .ok (.iload_n 1, 1) := by decide +kernel
theorem dX0_grade_41 : decode cX0_grade 41 = .ok (.invokevirtual 106, 3) := by decide +kernel
theorem dX0_grade_44 : decode cX0_grade 44 = .ok (.ifCond .eq 13, 3) := by decide +kernel
theorem dX0_grade_47 : decode cX0_grade 47 = .ok (.new 110, 3) := by decide +kernel
theorem dX0_grade_50 : decode cX0_grade 50 = .ok (.dup, 1) := by decide +kernel
theorem dX0_grade_51 : decode cX0_grade 51 = .ok (.ldc 112, 2) := by decide +kernel
theorem dX0_grade_53 : decode cX0_grade 53 = .ok (.invokespecial 114, 3) := by decide +kernel
theorem dX0_grade_56 : decode cX0_grade 56 = .ok (.athrow, 1) := by decide +kernel
theorem dX0_grade_57 : decode cX0_grade 57 = .ok (.aload_n 0, 1) := by decide +kernel
theorem dX0_grade_58 : decode cX0_grade 58 = .ok (.getfield 25, 3) := by decide +kernel
theorem dX0_grade_61 : decode cX0_grade 61 = .ok (.iload_n 1, 1) := by decide +kernel
theorem dX0_grade_62 : decode cX0_grade 62 = .ok (.iload_n 2, 1) := by decide +kernel
theorem dX0_grade_63 : decode cX0_grade 63 = .ok (.invokestatic 72, 3) := by decide +kernel
theorem dX0_grade_66 : decode cX0_grade 66 = .ok (.aload_n 0, 1) := by decide +kernel
theorem dX0_grade_67 : decode cX0_grade 67 = .ok (.dup, 1) := by decide +kernel
theorem dX0_grade_68 : decode cX0_grade 68 = .ok (.getfield 115, 3) := by decide +kernel
theorem dX0_grade_71 : decode cX0_grade 71 = .ok (.iconst 1, 1) := by decide +kernel
theorem dX0_grade_72 : decode cX0_grade 72 = .ok (.iadd, 1) := by decide +kernel
theorem dX0_grade_73 : decode cX0_grade 73 = .ok (.putfield 115, 3) := by decide +kernel
theorem dX0_grade_76 : decode cX0_grade 76 = .ok (.aload_n 0, 1) := by decide +kernel
theorem dX0_grade_77 : decode cX0_grade 77 = .ok (.dup, 1) := by decide +kernel
theorem dX0_grade_78 : decode cX0_grade 78 = .ok (.getfield 118, 3) := by decide +kernel
theorem dX0_grade_81 : decode cX0_grade 81 = .ok (.iload_n 2, 1) := by decide +kernel
theorem dX0_grade_82 : decode cX0_grade 82 = .ok (.iadd, 1) := by decide +kernel
theorem dX0_grade_83 : decode cX0_grade 83 = .ok (.putfield 118, 3) := by decide +kernel
theorem dX0_grade_86 : decode cX0_grade 86 = .ok (.aload_n 0, 1) := by decide +kernel
theorem dX0_grade_87 : decode cX0_grade 87 = .ok (.iload_n 1, 1) := by decide +kernel
theorem dX0_grade_88 : decode cX0_grade 88 = .ok (.invokevirtual 80, 3) := by decide +kernel
theorem dX0_grade_91 : decode cX0_grade 91 = .ok (.aload_n 0, 1) := by decide +kernel
theorem dX0_grade_92 : decode cX0_grade 92 = .ok (.iload_n 1, 1) := by decide +kernel
theorem dX0_grade_93 : decode cX0_grade 93 = .ok (.invokevirtual 121, 3) := by decide +kernel
theorem dX0_grade_96 : decode cX0_grade 96 = .ok (.aload_n 0, 1) := by decide +kernel
theorem dX0_grade_97 : decode cX0_grade 97 = .ok (.getfield 115, 3) := by decide +kernel
theorem dX0_grade_100 : decode cX0_grade 100 = .ok (.ireturn, 1) := by decide +kernel
set_option maxRecDepth 20000 in
theorem ggX0_weigh_X0_requireFork : GoodIn wsX0_weigh wsX0_requireFork := goodIn_ca (goodIn_r _ [6, 7, 8, 9, 10, 11, 5, 12, 13, 14, 15, 16, 17, 18, 19, 20, 21, 33, 34, 35, 36, 37, 38, 39, 40, 41, 42, 43, 44, 45, 46, 47, 48, 49, 50] (by decide +kernel) (by decide +kernel)) (goodIn_sub (fun _ h => List.mem_cons_of_mem _ (List.mem_append_left _ (List.mem_append_right _ h))) (by decide +kernel))
set_option maxRecDepth 20000 in
theorem gX0_weigh_X0_requireFork : GoodIn wsX0_weigh (wsV RX0 124 RX0 yX0_requireFork wsX0_requireFork) := goodIn_app (goodIn_of _ (by decide +kernel)) ggX0_weigh_X0_requireFork
set_option maxRecDepth 20000 in
theorem ggX0_weigh_X0_requireWeight : GoodIn wsX0_weigh wsX0_requireWeight := goodIn_ca (goodIn_r _ [24, 25, 26] (by decide +kernel) (by decide +kernel)) (goodIn_sub (fun _ h => List.mem_cons_of_mem _ (List.mem_append_right _ h)) (by decide +kernel))
set_option maxRecDepth 20000 in
theorem gX0_weigh_X0_requireWeight : GoodIn wsX0_weigh (va_wsS RX0 87 yX0_requireWeight wsX0_requireWeight) := goodIn_app (goodIn_of _ (by decide +kernel)) ggX0_weigh_X0_requireWeight
set_option maxRecDepth 20000 in
theorem ggX0_weigh_X0_at : GoodIn wsX0_weigh wsX0_at := goodIn_r _ [29] (by decide +kernel) (by decide +kernel)
set_option maxRecDepth 20000 in
theorem gX0_weigh_X0_at : GoodIn wsX0_weigh (va_wsS RX0 100 yX0_at wsX0_at) := goodIn_app (goodIn_of _ (by decide +kernel)) ggX0_weigh_X0_at
set_option maxRecDepth 20000 in
theorem ggX0_weigh_X0_put : GoodIn wsX0_weigh wsX0_put := goodIn_r _ [32] (by decide +kernel) (by decide +kernel)
set_option maxRecDepth 20000 in
theorem gX0_weigh_X0_put : GoodIn wsX0_weigh (va_wsS RX0 72 yX0_put wsX0_put) := goodIn_app (goodIn_of _ (by decide +kernel)) ggX0_weigh_X0_put
theorem dX0_weigh_0 : decode cX0_weigh 0 = .ok (.aload_n 0, 1) := by decide +kernel
theorem dX0_weigh_1 : decode cX0_weigh 1 = .ok (.iload_n 1, 1) := by decide +kernel
theorem dX0_weigh_2 : decode cX0_weigh 2 = .ok (.invokevirtual 124, 3) := by decide +kernel
theorem dX0_weigh_5 : decode cX0_weigh 5 = .ok (.iload_n 2, 1) := by decide +kernel
theorem dX0_weigh_6 : decode cX0_weigh 6 = .ok (.invokestatic 87, 3) := by decide +kernel
theorem dX0_weigh_9 : decode cX0_weigh 9 = .ok (.aload_n 0, 1) := by decide +kernel
theorem dX0_weigh_10 : decode cX0_weigh 10 = .ok (.getfield 22, 3) := by decide +kernel
theorem dX0_weigh_13 : decode cX0_weigh 13 = .ok (.iload_n 1, 1) := by decide +kernel
theorem dX0_weigh_14 : decode cX0_weigh 14 = .ok (.invokestatic 100, 3) := by decide +kernel
theorem dX0_weigh_17 : decode cX0_weigh 17 = .ok (.istore_n 3, 1) := by decide +kernel
theorem dX0_weigh_18 : decode cX0_weigh 18 = .ok (.aload_n 0, 1) := by decide +kernel
theorem dX0_weigh_19 : decode cX0_weigh 19 = .ok (.getfield 22, 3) := by decide +kernel
theorem dX0_weigh_22 : decode cX0_weigh 22 = .ok (.iload_n 1, 1) := by decide +kernel
theorem dX0_weigh_23 : decode cX0_weigh 23 = .ok (.iload_n 2, 1) := by decide +kernel
theorem dX0_weigh_24 : decode cX0_weigh 24 = .ok (.invokestatic 72, 3) := by decide +kernel
theorem dX0_weigh_27 : decode cX0_weigh 27 = .ok (.iload_n 3, 1) := by decide +kernel
theorem dX0_weigh_28 : decode cX0_weigh 28 = .ok (.ireturn, 1) := by decide +kernel
set_option maxRecDepth 20000 in
theorem ggX0_enroll_X0_requirePlace : GoodIn wsX0_enroll wsX0_requirePlace := goodIn_ca (goodIn_r _ [9, 10, 11, 12, 16, 17, 18, 19, 20, 21, 22, 23, 24, 25, 26, 27, 28, 29, 30, 31, 32, 33] (by decide +kernel) (by decide +kernel)) (goodIn_sub (fun _ h => List.mem_cons_of_mem _ (List.mem_append_right _ h)) (by decide +kernel))
set_option maxRecDepth 20000 in
theorem gX0_enroll_X0_requirePlace : GoodIn wsX0_enroll (wsV RX0 84 RX0 yX0_requirePlace wsX0_requirePlace) := goodIn_app (goodIn_of _ (by decide +kernel)) ggX0_enroll_X0_requirePlace
set_option maxRecDepth 20000 in
theorem ggX0_enroll_X0_put : GoodIn wsX0_enroll wsX0_put := goodIn_r _ [15] (by decide +kernel) (by decide +kernel)
set_option maxRecDepth 20000 in
theorem gX0_enroll_X0_put : GoodIn wsX0_enroll (va_wsS RX0 72 yX0_put wsX0_put) := goodIn_app (goodIn_of _ (by decide +kernel)) ggX0_enroll_X0_put
theorem dX0_enroll_0 : decode cX0_enroll 0 = .ok (.aload_n 0, 1) := by decide +kernel
theorem dX0_enroll_1 : decode cX0_enroll 1 = .ok (.iload_n 1, 1) := by decide +kernel
theorem dX0_enroll_2 : decode cX0_enroll 2 = .ok (.invokevirtual 84, 3) := by decide +kernel
theorem dX0_enroll_5 : decode cX0_enroll 5 = .ok (.aload_n 0, 1) := by decide +kernel
theorem dX0_enroll_6 : decode cX0_enroll 6 = .ok (.getfield 127, 3) := by decide +kernel
theorem dX0_enroll_9 : decode cX0_enroll 9 = .ok (.bipush 8, 2) := by decide +kernel
theorem dX0_enroll_11 : decode cX0_enroll 11 = .ok (.if_icmp .lt 13, 3) := by decide +kernel
theorem dX0_enroll_14 : decode cX0_enroll 14 = .ok (.new 110, 3) := by decide +kernel
theorem dX0_enroll_17 : decode cX0_enroll 17 = .ok (.dup, 1) := by decide +kernel
theorem dX0_enroll_18 : decode cX0_enroll 18 = .ok (.ldc 130, 2) := by decide +kernel
theorem dX0_enroll_20 : decode cX0_enroll 20 = .ok (.invokespecial 114, 3) := by decide +kernel
theorem dX0_enroll_23 : decode cX0_enroll 23 = .ok (.athrow, 1) := by decide +kernel
theorem dX0_enroll_24 : decode cX0_enroll 24 = .ok (.aload_n 0, 1) := by decide +kernel
theorem dX0_enroll_25 : decode cX0_enroll 25 = .ok (.getfield 127, 3) := by decide +kernel
theorem dX0_enroll_28 : decode cX0_enroll 28 = .ok (.istore_n 2, 1) := by decide +kernel
theorem dX0_enroll_29 : decode cX0_enroll 29 = .ok (.aload_n 0, 1) := by decide +kernel
theorem dX0_enroll_30 : decode cX0_enroll 30 = .ok (.getfield 41, 3) := by decide +kernel
theorem dX0_enroll_33 : decode cX0_enroll 33 = .ok (.iload_n 2, 1) := by decide +kernel
theorem dX0_enroll_34 : decode cX0_enroll 34 = .ok (.iload_n 1, 1) := by decide +kernel
theorem dX0_enroll_35 : decode cX0_enroll 35 = .ok (.invokestatic 72, 3) := by decide +kernel
theorem dX0_enroll_38 : decode cX0_enroll 38 = .ok (.aload_n 0, 1) := by decide +kernel
theorem dX0_enroll_39 : decode cX0_enroll 39 = .ok (.dup, 1) := by decide +kernel
theorem dX0_enroll_40 : decode cX0_enroll 40 = .ok (.getfield 127, 3) := by decide +kernel
theorem dX0_enroll_43 : decode cX0_enroll 43 = .ok (.iconst 1, 1) := by decide +kernel
theorem dX0_enroll_44 : decode cX0_enroll 44 = .ok (.iadd, 1) := by decide +kernel
theorem dX0_enroll_45 : decode cX0_enroll 45 = .ok (.putfield 127, 3) := by decide +kernel
theorem dX0_enroll_48 : decode cX0_enroll 48 = .ok (.iload_n 2, 1) := by decide +kernel
theorem dX0_enroll_49 : decode cX0_enroll 49 = .ok (.ireturn, 1) := by decide +kernel
set_option maxRecDepth 20000 in
theorem ggX0_turn_X0_requireStudent : GoodIn wsX0_turn wsX0_requireStudent := goodIn_ca (goodIn_r _ [8, 9, 10, 11, 38, 39, 40, 41, 42, 43, 44, 45, 46, 47, 48, 49, 50, 51, 52, 53, 54, 55] (by decide +kernel) (by decide +kernel)) (goodIn_sub (fun _ h => List.mem_cons_of_mem _ (List.mem_append_right _ h)) (by decide +kernel))
set_option maxRecDepth 20000 in
theorem gX0_turn_X0_requireStudent : GoodIn wsX0_turn (wsV RX0 132 RX0 yX0_requireStudent wsX0_requireStudent) := goodIn_app (goodIn_of _ (by decide +kernel)) ggX0_turn_X0_requireStudent
set_option maxRecDepth 20000 in
theorem ggX0_turn_X0_at : GoodIn wsX0_turn wsX0_at := goodIn_r _ [14] (by decide +kernel) (by decide +kernel)
set_option maxRecDepth 20000 in
theorem gX0_turn_X0_at : GoodIn wsX0_turn (va_wsS RX0 100 yX0_at wsX0_at) := goodIn_app (goodIn_of _ (by decide +kernel)) ggX0_turn_X0_at
set_option maxRecDepth 20000 in
theorem ggX0_turn_X0_holdsExam : GoodIn wsX0_turn wsX0_holdsExam := goodIn_r _ [18, 19, 20, 21, 7, 22, 38, 39, 40, 41, 42, 43, 44, 45, 46, 47, 48, 49, 50, 51, 52, 53, 54, 55] (by decide +kernel) (by decide +kernel)
set_option maxRecDepth 20000 in
theorem gX0_turn_X0_holdsExam : GoodIn wsX0_turn (wsV RX0 135 RX0 yX0_holdsExam wsX0_holdsExam) := goodIn_app (goodIn_of _ (by decide +kernel)) ggX0_turn_X0_holdsExam
set_option maxRecDepth 20000 in
theorem ggX0_turn_X0_walk : GoodIn wsX0_turn wsX0_walk := goodIn_r _ [26, 3, 27, 28, 12, 13, 7, 14, 29, 30, 31, 32, 33, 34, 35, 36, 37, 38, 39, 40, 41, 42, 43, 44, 45, 46, 47, 48, 49, 50, 51, 52, 53, 54, 55] (by decide +kernel) (by decide +kernel)
set_option maxRecDepth 20000 in
theorem gX0_turn_X0_walk : GoodIn wsX0_turn (wsV RX0 140 RX0 yX0_walk wsX0_walk) := goodIn_app (goodIn_of _ (by decide +kernel)) ggX0_turn_X0_walk
theorem dX0_turn_0 : decode cX0_turn 0 = .ok (.aload_n 0, 1) := by decide +kernel
theorem dX0_turn_1 : decode cX0_turn 1 = .ok (.iload_n 1, 1) := by decide +kernel
theorem dX0_turn_2 : decode cX0_turn 2 = .ok (.invokevirtual 132, 3) := by decide +kernel
theorem dX0_turn_5 : decode cX0_turn 5 = .ok (.aload_n 0, 1) := by decide +kernel
theorem dX0_turn_6 : decode cX0_turn 6 = .ok (.aload_n 0, 1) := by decide +kernel
theorem dX0_turn_7 : decode cX0_turn 7 = .ok (.getfield 41, 3) := by decide +kernel
theorem dX0_turn_10 : decode cX0_turn 10 = .ok (.iload_n 1, 1) := by decide +kernel
theorem dX0_turn_11 : decode cX0_turn 11 = .ok (.invokestatic 100, 3) := by decide +kernel
theorem dX0_turn_14 : decode cX0_turn 14 = .ok (.invokevirtual 135, 3) := by decide +kernel
theorem dX0_turn_17 : decode cX0_turn 17 = .ok (.ifCond .eq 13, 3) := by decide +kernel
theorem dX0_turn_20 : decode cX0_turn 20 = .ok (.new 110, 3) := by decide +kernel
theorem dX0_turn_23 : decode cX0_turn 23 = .ok (.dup, 1) := by decide +kernel
theorem dX0_turn_24 : decode cX0_turn 24 = .ok (.ldc 138, 2) := by decide +kernel
theorem dX0_turn_26 : decode cX0_turn 26 = .ok (.invokespecial 114, 3) := by decide +kernel
theorem dX0_turn_29 : decode cX0_turn 29 = .ok (.athrow, 1) := by decide +kernel
theorem dX0_turn_30 : decode cX0_turn 30 = .ok (.aload_n 0, 1) := by decide +kernel
theorem dX0_turn_31 : decode cX0_turn 31 = .ok (.iload_n 1, 1) := by decide +kernel
theorem dX0_turn_32 : decode cX0_turn 32 = .ok (.iload_n 2, 1) := by decide +kernel
theorem dX0_turn_33 : decode cX0_turn 33 = .ok (.invokevirtual 140, 3) := by decide +kernel
theorem dX0_turn_36 : decode cX0_turn 36 = .ok (.aload_n 0, 1) := by decide +kernel
theorem dX0_turn_37 : decode cX0_turn 37 = .ok (.getfield 41, 3) := by decide +kernel
theorem dX0_turn_40 : decode cX0_turn 40 = .ok (.iload_n 1, 1) := by decide +kernel
theorem dX0_turn_41 : decode cX0_turn 41 = .ok (.invokestatic 100, 3) := by decide +kernel
theorem dX0_turn_44 : decode cX0_turn 44 = .ok (.ireturn, 1) := by decide +kernel
set_option maxRecDepth 20000 in
theorem ggX0_goBack_X0_requireStudent : GoodIn wsX0_goBack wsX0_requireStudent := goodIn_ca (goodIn_r _ [9, 10, 11, 12, 24, 25, 26, 27, 28, 29, 30, 31, 32, 33, 34, 35, 36, 37, 38, 39, 40, 41] (by decide +kernel) (by decide +kernel)) (goodIn_sub (fun _ h => List.mem_cons_of_mem _ (List.mem_append_right _ h)) (by decide +kernel))
set_option maxRecDepth 20000 in
theorem gX0_goBack_X0_requireStudent : GoodIn wsX0_goBack (wsV RX0 132 RX0 yX0_requireStudent wsX0_requireStudent) := goodIn_app (goodIn_of _ (by decide +kernel)) ggX0_goBack_X0_requireStudent
set_option maxRecDepth 20000 in
theorem ggX0_goBack_X0_at : GoodIn wsX0_goBack wsX0_at := goodIn_r _ [15] (by decide +kernel) (by decide +kernel)
set_option maxRecDepth 20000 in
theorem gX0_goBack_X0_at : GoodIn wsX0_goBack (va_wsS RX0 100 yX0_at wsX0_at) := goodIn_app (goodIn_of _ (by decide +kernel)) ggX0_goBack_X0_at
set_option maxRecDepth 20000 in
theorem ggX0_goBack_X0_passedFork : GoodIn wsX0_goBack wsX0_passedFork := goodIn_r _ [19, 20, 13, 14, 8, 15, 24, 25, 26, 27, 28, 29, 30, 31, 32, 33, 34, 35, 36, 37, 38, 39, 40, 41] (by decide +kernel) (by decide +kernel)
set_option maxRecDepth 20000 in
theorem gX0_goBack_X0_passedFork : GoodIn wsX0_goBack (wsV RX0 146 RX0 yX0_passedFork wsX0_passedFork) := goodIn_app (goodIn_of _ (by decide +kernel)) ggX0_goBack_X0_passedFork
set_option maxRecDepth 20000 in
theorem ggX0_goBack_X0_put : GoodIn wsX0_goBack wsX0_put := goodIn_r _ [23] (by decide +kernel) (by decide +kernel)
set_option maxRecDepth 20000 in
theorem gX0_goBack_X0_put : GoodIn wsX0_goBack (va_wsS RX0 72 yX0_put wsX0_put) := goodIn_app (goodIn_of _ (by decide +kernel)) ggX0_goBack_X0_put
theorem dX0_goBack_0 : decode cX0_goBack 0 = .ok (.aload_n 0, 1) := by decide +kernel
theorem dX0_goBack_1 : decode cX0_goBack 1 = .ok (.iload_n 1, 1) := by decide +kernel
theorem dX0_goBack_2 : decode cX0_goBack 2 = .ok (.invokevirtual 132, 3) := by decide +kernel
theorem dX0_goBack_5 : decode cX0_goBack 5 = .ok (.aload_n 0, 1) := by decide +kernel
theorem dX0_goBack_6 : decode cX0_goBack 6 = .ok (.getfield 44, 3) := by decide +kernel
theorem dX0_goBack_9 : decode cX0_goBack 9 = .ok (.iload_n 1, 1) := by decide +kernel
theorem dX0_goBack_10 : decode cX0_goBack 10 = .ok (.invokestatic 100, 3) := by decide +kernel
theorem dX0_goBack_13 : decode cX0_goBack 13 = .ok (.iconst 1, 1) := by decide +kernel
theorem dX0_goBack_14 : decode cX0_goBack 14 = .ok (.isub, 1) := by decide +kernel
theorem dX0_goBack_15 : decode cX0_goBack 15 = .ok (.istore_n 2, 1) := by decide +kernel
theorem dX0_goBack_16 : decode cX0_goBack 16 = .ok (.iload_n 2, 1) := by decide +kernel
theorem dX0_goBack_17 : decode cX0_goBack 17 = .ok (.ifCond .ge 13, 3) := by decide +kernel
theorem dX0_goBack_20 : decode cX0_goBack 20 = .ok (.new 110, 3) := by decide +kernel
theorem dX0_goBack_23 : decode cX0_goBack 23 = .ok (.dup, 1) := by decide +kernel
theorem dX0_goBack_24 : decode cX0_goBack 24 = .ok (.ldc 144, 2) := by decide +kernel
theorem dX0_goBack_26 : decode cX0_goBack 26 = .ok (.invokespecial 114, 3) := by decide +kernel
theorem dX0_goBack_29 : decode cX0_goBack 29 = .ok (.athrow, 1) := by decide +kernel
theorem dX0_goBack_30 : decode cX0_goBack 30 = .ok (.aload_n 0, 1) := by decide +kernel
theorem dX0_goBack_31 : decode cX0_goBack 31 = .ok (.iload_n 1, 1) := by decide +kernel
theorem dX0_goBack_32 : decode cX0_goBack 32 = .ok (.iload_n 2, 1) := by decide +kernel
theorem dX0_goBack_33 : decode cX0_goBack 33 = .ok (.invokevirtual 146, 3) := by decide +kernel
theorem dX0_goBack_36 : decode cX0_goBack 36 = .ok (.istore_n 3, 1) := by decide +kernel
theorem dX0_goBack_37 : decode cX0_goBack 37 = .ok (.aload_n 0, 1) := by decide +kernel
theorem dX0_goBack_38 : decode cX0_goBack 38 = .ok (.getfield 41, 3) := by decide +kernel
theorem dX0_goBack_41 : decode cX0_goBack 41 = .ok (.iload_n 1, 1) := by decide +kernel
theorem dX0_goBack_42 : decode cX0_goBack 42 = .ok (.iload_n 3, 1) := by decide +kernel
theorem dX0_goBack_43 : decode cX0_goBack 43 = .ok (.invokestatic 72, 3) := by decide +kernel
theorem dX0_goBack_46 : decode cX0_goBack 46 = .ok (.aload_n 0, 1) := by decide +kernel
theorem dX0_goBack_47 : decode cX0_goBack 47 = .ok (.getfield 44, 3) := by decide +kernel
theorem dX0_goBack_50 : decode cX0_goBack 50 = .ok (.iload_n 1, 1) := by decide +kernel
theorem dX0_goBack_51 : decode cX0_goBack 51 = .ok (.iload_n 2, 1) := by decide +kernel
theorem dX0_goBack_52 : decode cX0_goBack 52 = .ok (.invokestatic 72, 3) := by decide +kernel
theorem dX0_goBack_55 : decode cX0_goBack 55 = .ok (.iload_n 3, 1) := by decide +kernel
theorem dX0_goBack_56 : decode cX0_goBack 56 = .ok (.ireturn, 1) := by decide +kernel
set_option maxRecDepth 20000 in
theorem ggX0_follow_X0_requireStudent : GoodIn wsX0_follow wsX0_requireStudent := goodIn_ca (goodIn_r _ [6, 7, 8, 9, 51, 52, 53, 54, 55, 56, 57, 58, 59, 60, 61, 62, 63, 64, 65, 66, 67, 68] (by decide +kernel) (by decide +kernel)) (goodIn_sub (fun _ h => List.mem_cons_of_mem _ (List.mem_append_right _ h)) (by decide +kernel))
set_option maxRecDepth 20000 in
theorem gX0_follow_X0_requireStudent : GoodIn wsX0_follow (wsV RX0 132 RX0 yX0_requireStudent wsX0_requireStudent) := goodIn_app (goodIn_of _ (by decide +kernel)) ggX0_follow_X0_requireStudent
set_option maxRecDepth 20000 in
theorem ggX0_follow_X0_at : GoodIn wsX0_follow wsX0_at := goodIn_r _ [12] (by decide +kernel) (by decide +kernel)
set_option maxRecDepth 20000 in
theorem gX0_follow_X0_at : GoodIn wsX0_follow (va_wsS RX0 100 yX0_at wsX0_at) := goodIn_app (goodIn_of _ (by decide +kernel)) ggX0_follow_X0_at
set_option maxRecDepth 20000 in
theorem ggX0_follow_X0_holdsExam : GoodIn wsX0_follow wsX0_holdsExam := goodIn_r _ [16, 17, 18, 19, 5, 20, 51, 52, 53, 54, 55, 56, 57, 58, 59, 60, 61, 62, 63, 64, 65, 66, 67, 68] (by decide +kernel) (by decide +kernel)
set_option maxRecDepth 20000 in
theorem gX0_follow_X0_holdsExam : GoodIn wsX0_follow (wsV RX0 135 RX0 yX0_holdsExam wsX0_holdsExam) := goodIn_app (goodIn_of _ (by decide +kernel)) ggX0_follow_X0_holdsExam
set_option maxRecDepth 20000 in
theorem ggX0_follow_X0_plansRight : GoodIn wsX0_follow wsX0_plansRight := goodIn_r _ [24, 25, 26, 27, 5, 28, 29, 30, 31, 32, 33, 34, 35, 36, 37, 38, 39, 40, 41, 10, 11, 12, 51, 52, 53, 54, 55, 56, 57, 58, 59, 60, 61, 62, 63, 64, 65, 66, 67, 68] (by decide +kernel) (by decide +kernel)
set_option maxRecDepth 20000 in
theorem gX0_follow_X0_plansRight : GoodIn wsX0_follow (wsV RX0 150 RX0 yX0_plansRight wsX0_plansRight) := goodIn_app (goodIn_of _ (by decide +kernel)) ggX0_follow_X0_plansRight
set_option maxRecDepth 20000 in
theorem ggX0_follow_X0_walk : GoodIn wsX0_follow wsX0_walk := goodIn_r _ [45, 1, 46, 47, 10, 11, 5, 12, 48, 49, 50, 36, 37, 38, 39, 40, 41, 51, 52, 53, 54, 55, 56, 57, 58, 59, 60, 61, 62, 63, 64, 65, 66, 67, 68] (by decide +kernel) (by decide +kernel)
set_option maxRecDepth 20000 in
theorem gX0_follow_X0_walk : GoodIn wsX0_follow (wsV RX0 140 RX0 yX0_walk wsX0_walk) := goodIn_app (goodIn_of _ (by decide +kernel)) ggX0_follow_X0_walk
theorem dX0_follow_0 : decode cX0_follow 0 = .ok (.aload_n 0, 1) := by decide +kernel
theorem dX0_follow_1 : decode cX0_follow 1 = .ok (.iload_n 1, 1) := by decide +kernel
theorem dX0_follow_2 : decode cX0_follow 2 = .ok (.invokevirtual 132, 3) := by decide +kernel
theorem dX0_follow_5 : decode cX0_follow 5 = .ok (.iconst 0, 1) := by decide +kernel
theorem dX0_follow_6 : decode cX0_follow 6 = .ok (.istore_n 2, 1) := by decide +kernel
theorem dX0_follow_7 : decode cX0_follow 7 = .ok (.iload_n 2, 1) := by decide +kernel
theorem dX0_follow_8 : decode cX0_follow 8 = .ok (.bipush 40, 2) := by decide +kernel
theorem dX0_follow_10 : decode cX0_follow 10 = .ok (.if_icmp .ge 41, 3) := by decide +kernel
theorem dX0_follow_13 : decode cX0_follow 13 = .ok (.aload_n 0, 1) := by decide +kernel
theorem dX0_follow_14 : decode cX0_follow 14 = .ok (.aload_n 0, 1) := by decide +kernel
theorem dX0_follow_15 : decode cX0_follow 15 = .ok (.getfield 41, 3) := by decide +kernel
theorem dX0_follow_18 : decode cX0_follow 18 = .ok (.iload_n 1, 1) := by decide +kernel
theorem dX0_follow_19 : decode cX0_follow 19 = .ok (.invokestatic 100, 3) := by decide +kernel
theorem dX0_follow_22 : decode cX0_follow 22 = .ok (.invokevirtual 135, 3) := by decide +kernel
theorem dX0_follow_25 : decode cX0_follow 25 = .ok (.ifCond .ne 26, 3) := by decide +kernel
theorem dX0_follow_28 : decode cX0_follow 28 = .ok (.aload_n 0, 1) := by decide +kernel
theorem dX0_follow_29 : decode cX0_follow 29 = .ok (.iload_n 1, 1) := by decide +kernel
theorem dX0_follow_30 : decode cX0_follow 30 = .ok (.aload_n 0, 1) := by decide +kernel
theorem dX0_follow_31 : decode cX0_follow 31 = .ok (.aload_n 0, 1) := by decide +kernel
theorem dX0_follow_32 : decode cX0_follow 32 = .ok (.getfield 41, 3) := by decide +kernel
theorem dX0_follow_35 : decode cX0_follow 35 = .ok (.iload_n 1, 1) := by decide +kernel
theorem dX0_follow_36 : decode cX0_follow 36 = .ok (.invokestatic 100, 3) := by decide +kernel
theorem dX0_follow_39 : decode cX0_follow 39 = .ok (.invokevirtual 150, 3) := by decide +kernel
theorem dX0_follow_42 : decode cX0_follow 42 = .ok (.invokevirtual 140, 3) := by decide +kernel
theorem dX0_follow_45 : decode cX0_follow 45 = .ok (.iinc 2 1, 3) := by decide +kernel
theorem dX0_follow_48 : decode cX0_follow 48 = .ok (.goto (-41), 3) := by decide +kernel
theorem dX0_follow_51 : decode cX0_follow 51 = .ok (.iload_n 2, 1) := by decide +kernel
theorem dX0_follow_52 : decode cX0_follow 52 = .ok (.ireturn, 1) := by decide +kernel
theorem dX0_places_0 : decode cX0_places 0 = .ok (.aload_n 0, 1) := by decide +kernel
theorem dX0_places_1 : decode cX0_places 1 = .ok (.getfield 60, 3) := by decide +kernel
theorem dX0_places_4 : decode cX0_places 4 = .ok (.ireturn, 1) := by decide +kernel
set_option maxRecDepth 20000 in
theorem ggX0_exams_J13_bitCount_95d88 : GoodIn wsX0_exams wsJ13_bitCount_95d88 := goodIn_r _ [5, 6, 7, 8] (by decide +kernel) (by decide +kernel)
set_option maxRecDepth 20000 in
theorem gX0_exams_J13_bitCount_95d88 : GoodIn wsX0_exams (va_wsS RX0 153 yJ13_bitCount_95d88 wsJ13_bitCount_95d88) := goodIn_app (goodIn_of _ (by decide +kernel)) ggX0_exams_J13_bitCount_95d88
theorem dX0_exams_0 : decode cX0_exams 0 = .ok (.aload_n 0, 1) := by decide +kernel
theorem dX0_exams_1 : decode cX0_exams 1 = .ok (.getfield 64, 3) := by decide +kernel
theorem dX0_exams_4 : decode cX0_exams 4 = .ok (.invokestatic 153, 3) := by decide +kernel
theorem dX0_exams_7 : decode cX0_exams 7 = .ok (.ireturn, 1) := by decide +kernel
theorem dX0_graded_0 : decode cX0_graded 0 = .ok (.aload_n 0, 1) := by decide +kernel
theorem dX0_graded_1 : decode cX0_graded 1 = .ok (.getfield 115, 3) := by decide +kernel
theorem dX0_graded_4 : decode cX0_graded 4 = .ok (.ireturn, 1) := by decide +kernel
theorem dX0_students_0 : decode cX0_students 0 = .ok (.aload_n 0, 1) := by decide +kernel
theorem dX0_students_1 : decode cX0_students 1 = .ok (.getfield 127, 3) := by decide +kernel
theorem dX0_students_4 : decode cX0_students 4 = .ok (.ireturn, 1) := by decide +kernel
set_option maxRecDepth 20000 in
theorem ggX0_atExams_X0_at : GoodIn wsX0_atExams wsX0_at := goodIn_r _ [6] (by decide +kernel) (by decide +kernel)
set_option maxRecDepth 20000 in
theorem gX0_atExams_X0_at : GoodIn wsX0_atExams (va_wsS RX0 100 yX0_at wsX0_at) := goodIn_app (goodIn_of _ (by decide +kernel)) ggX0_atExams_X0_at
set_option maxRecDepth 20000 in
theorem ggX0_atExams_X0_holdsExam : GoodIn wsX0_atExams wsX0_holdsExam := goodIn_r _ [10, 11, 12, 13, 5, 14, 15, 16, 17, 18, 19, 20, 21, 22, 23, 24, 25, 26, 27, 28, 29, 30, 31, 32] (by decide +kernel) (by decide +kernel)
set_option maxRecDepth 20000 in
theorem gX0_atExams_X0_holdsExam : GoodIn wsX0_atExams (wsV RX0 135 RX0 yX0_holdsExam wsX0_holdsExam) := goodIn_app (goodIn_of _ (by decide +kernel)) ggX0_atExams_X0_holdsExam
theorem dX0_atExams_0 : decode cX0_atExams 0 = .ok (.iconst 0, 1) := by decide +kernel
theorem dX0_atExams_1 : decode cX0_atExams 1 = .ok (.istore_n 1, 1) := by decide +kernel
theorem dX0_atExams_2 : decode cX0_atExams 2 = .ok (.iconst 0, 1) := by decide +kernel
theorem dX0_atExams_3 : decode cX0_atExams 3 = .ok (.istore_n 2, 1) := by decide +kernel
theorem dX0_atExams_4 : decode cX0_atExams 4 = .ok (.iload_n 2, 1) := by decide +kernel
theorem dX0_atExams_5 : decode cX0_atExams 5 = .ok (.aload_n 0, 1) := by decide +kernel
theorem dX0_atExams_6 : decode cX0_atExams 6 = .ok (.getfield 127, 3) := by decide +kernel
theorem dX0_atExams_9 : decode cX0_atExams 9 = .ok (.if_icmp .ge 27, 3) := by decide +kernel
theorem dX0_atExams_12 : decode cX0_atExams 12 = .ok (.aload_n 0, 1) := by decide +kernel
theorem dX0_atExams_13 : decode cX0_atExams 13 = .ok (.aload_n 0, 1) := by decide +kernel
theorem dX0_atExams_14 : decode cX0_atExams 14 = .ok (.getfield 41, 3) := by decide +kernel
theorem dX0_atExams_17 : decode cX0_atExams 17 = .ok (.iload_n 2, 1) := by decide +kernel
theorem dX0_atExams_18 : decode cX0_atExams 18 = .ok (.invokestatic 100, 3) := by decide +kernel
theorem dX0_atExams_21 : decode cX0_atExams 21 = .ok (.invokevirtual 135, 3) := by decide +kernel
theorem dX0_atExams_24 : decode cX0_atExams 24 = .ok (.ifCond .eq 6, 3) := by decide +kernel
theorem dX0_atExams_27 : decode cX0_atExams 27 = .ok (.iinc 1 1, 3) := by decide +kernel
theorem dX0_atExams_30 : decode cX0_atExams 30 = .ok (.iinc 2 1, 3) := by decide +kernel
theorem dX0_atExams_33 : decode cX0_atExams 33 = .ok (.goto (-29), 3) := by decide +kernel
theorem dX0_atExams_36 : decode cX0_atExams 36 = .ok (.iload_n 1, 1) := by decide +kernel
theorem dX0_atExams_37 : decode cX0_atExams 37 = .ok (.ireturn, 1) := by decide +kernel
set_option maxRecDepth 20000 in
theorem ggX0_isExam_X0_requirePlace : GoodIn wsX0_isExam wsX0_requirePlace := goodIn_ca (goodIn_r _ [5, 6, 7, 8, 17, 18, 19, 20, 21, 22, 23, 24, 25, 26, 27, 28, 29, 30, 31, 32, 33, 34] (by decide +kernel) (by decide +kernel)) (goodIn_sub (fun _ h => List.mem_cons_of_mem _ (List.mem_append_right _ h)) (by decide +kernel))
set_option maxRecDepth 20000 in
theorem gX0_isExam_X0_requirePlace : GoodIn wsX0_isExam (wsV RX0 84 RX0 yX0_requirePlace wsX0_requirePlace) := goodIn_app (goodIn_of _ (by decide +kernel)) ggX0_isExam_X0_requirePlace
set_option maxRecDepth 20000 in
theorem ggX0_isExam_X0_holdsExam : GoodIn wsX0_isExam wsX0_holdsExam := goodIn_r _ [12, 13, 14, 15, 4, 16, 17, 18, 19, 20, 21, 22, 23, 24, 25, 26, 27, 28, 29, 30, 31, 32, 33, 34] (by decide +kernel) (by decide +kernel)
set_option maxRecDepth 20000 in
theorem gX0_isExam_X0_holdsExam : GoodIn wsX0_isExam (wsV RX0 135 RX0 yX0_holdsExam wsX0_holdsExam) := goodIn_app (goodIn_of _ (by decide +kernel)) ggX0_isExam_X0_holdsExam
theorem dX0_isExam_0 : decode cX0_isExam 0 = .ok (.aload_n 0, 1) := by decide +kernel
theorem dX0_isExam_1 : decode cX0_isExam 1 = .ok (.iload_n 1, 1) := by decide +kernel
theorem dX0_isExam_2 : decode cX0_isExam 2 = .ok (.invokevirtual 84, 3) := by decide +kernel
theorem dX0_isExam_5 : decode cX0_isExam 5 = .ok (.aload_n 0, 1) := by decide +kernel
theorem dX0_isExam_6 : decode cX0_isExam 6 = .ok (.iload_n 1, 1) := by decide +kernel
theorem dX0_isExam_7 : decode cX0_isExam 7 = .ok (.invokevirtual 135, 3) := by decide +kernel
theorem dX0_isExam_10 : decode cX0_isExam 10 = .ok (.ireturn, 1) := by decide +kernel
set_option maxRecDepth 20000 in
theorem ggX0_isGraded_X0_requireExam : GoodIn wsX0_isGraded wsX0_requireExam := goodIn_ca (goodIn_r _ [5, 6, 7, 8, 9, 10, 4, 11, 12, 13, 14, 15, 16, 17, 18, 19, 20, 29, 30, 31, 32, 33, 34, 35, 36, 37, 38, 39, 40, 41, 42, 43, 44, 45, 46] (by decide +kernel) (by decide +kernel)) (goodIn_sub (fun _ h => List.mem_cons_of_mem _ (List.mem_append_right _ h)) (by decide +kernel))
set_option maxRecDepth 20000 in
theorem gX0_isGraded_X0_requireExam : GoodIn wsX0_isGraded (wsV RX0 97 RX0 yX0_requireExam wsX0_requireExam) := goodIn_app (goodIn_of _ (by decide +kernel)) ggX0_isGraded_X0_requireExam
set_option maxRecDepth 20000 in
theorem ggX0_isGraded_X0_hasGrade : GoodIn wsX0_isGraded wsX0_hasGrade := goodIn_r _ [24, 25, 26, 27, 4, 28, 29, 30, 31, 32, 33, 34, 35, 36, 37, 38, 39, 40, 41, 42, 43, 44, 45, 46] (by decide +kernel) (by decide +kernel)
set_option maxRecDepth 20000 in
theorem gX0_isGraded_X0_hasGrade : GoodIn wsX0_isGraded (wsV RX0 106 RX0 yX0_hasGrade wsX0_hasGrade) := goodIn_app (goodIn_of _ (by decide +kernel)) ggX0_isGraded_X0_hasGrade
theorem dX0_isGraded_0 : decode cX0_isGraded 0 = .ok (.aload_n 0, 1) := by decide +kernel
theorem dX0_isGraded_1 : decode cX0_isGraded 1 = .ok (.iload_n 1, 1) := by decide +kernel
theorem dX0_isGraded_2 : decode cX0_isGraded 2 = .ok (.invokevirtual 97, 3) := by decide +kernel
theorem dX0_isGraded_5 : decode cX0_isGraded 5 = .ok (.aload_n 0, 1) := by decide +kernel
theorem dX0_isGraded_6 : decode cX0_isGraded 6 = .ok (.iload_n 1, 1) := by decide +kernel
theorem dX0_isGraded_7 : decode cX0_isGraded 7 = .ok (.invokevirtual 106, 3) := by decide +kernel
theorem dX0_isGraded_10 : decode cX0_isGraded 10 = .ok (.ireturn, 1) := by decide +kernel
set_option maxRecDepth 20000 in
theorem ggX0_gradeOf_X0_requireExam : GoodIn wsX0_gradeOf wsX0_requireExam := goodIn_ca (goodIn_r _ [6, 7, 8, 9, 10, 11, 5, 12, 13, 14, 15, 16, 17, 18, 19, 20, 21, 25, 26, 27, 28, 29, 30, 31, 32, 33, 34, 35, 36, 37, 38, 39, 40, 41, 42] (by decide +kernel) (by decide +kernel)) (goodIn_sub (fun _ h => List.mem_cons_of_mem _ (List.mem_append_right _ h)) (by decide +kernel))
set_option maxRecDepth 20000 in
theorem gX0_gradeOf_X0_requireExam : GoodIn wsX0_gradeOf (wsV RX0 97 RX0 yX0_requireExam wsX0_requireExam) := goodIn_app (goodIn_of _ (by decide +kernel)) ggX0_gradeOf_X0_requireExam
set_option maxRecDepth 20000 in
theorem ggX0_gradeOf_X0_at : GoodIn wsX0_gradeOf wsX0_at := goodIn_r _ [24] (by decide +kernel) (by decide +kernel)
set_option maxRecDepth 20000 in
theorem gX0_gradeOf_X0_at : GoodIn wsX0_gradeOf (va_wsS RX0 100 yX0_at wsX0_at) := goodIn_app (goodIn_of _ (by decide +kernel)) ggX0_gradeOf_X0_at
theorem dX0_gradeOf_0 : decode cX0_gradeOf 0 = .ok (.aload_n 0, 1) := by decide +kernel
theorem dX0_gradeOf_1 : decode cX0_gradeOf 1 = .ok (.iload_n 1, 1) := by decide +kernel
theorem dX0_gradeOf_2 : decode cX0_gradeOf 2 = .ok (.invokevirtual 97, 3) := by decide +kernel
theorem dX0_gradeOf_5 : decode cX0_gradeOf 5 = .ok (.aload_n 0, 1) := by decide +kernel
theorem dX0_gradeOf_6 : decode cX0_gradeOf 6 = .ok (.getfield 25, 3) := by decide +kernel
theorem dX0_gradeOf_9 : decode cX0_gradeOf 9 = .ok (.iload_n 1, 1) := by decide +kernel
theorem dX0_gradeOf_10 : decode cX0_gradeOf 10 = .ok (.invokestatic 100, 3) := by decide +kernel
theorem dX0_gradeOf_13 : decode cX0_gradeOf 13 = .ok (.ireturn, 1) := by decide +kernel
set_option maxRecDepth 20000 in
theorem ggX0_leftOf_X0_requireFork : GoodIn wsX0_leftOf wsX0_requireFork := goodIn_ca (goodIn_r _ [6, 7, 8, 9, 10, 11, 5, 12, 13, 14, 15, 16, 17, 18, 19, 20, 21, 25, 26, 27, 28, 29, 30, 31, 32, 33, 34, 35, 36, 37, 38, 39, 40, 41, 42] (by decide +kernel) (by decide +kernel)) (goodIn_sub (fun _ h => List.mem_cons_of_mem _ (List.mem_append_right _ h)) (by decide +kernel))
set_option maxRecDepth 20000 in
theorem gX0_leftOf_X0_requireFork : GoodIn wsX0_leftOf (wsV RX0 124 RX0 yX0_requireFork wsX0_requireFork) := goodIn_app (goodIn_of _ (by decide +kernel)) ggX0_leftOf_X0_requireFork
set_option maxRecDepth 20000 in
theorem ggX0_leftOf_X0_at : GoodIn wsX0_leftOf wsX0_at := goodIn_r _ [24] (by decide +kernel) (by decide +kernel)
set_option maxRecDepth 20000 in
theorem gX0_leftOf_X0_at : GoodIn wsX0_leftOf (va_wsS RX0 100 yX0_at wsX0_at) := goodIn_app (goodIn_of _ (by decide +kernel)) ggX0_leftOf_X0_at
theorem dX0_leftOf_0 : decode cX0_leftOf 0 = .ok (.aload_n 0, 1) := by decide +kernel
theorem dX0_leftOf_1 : decode cX0_leftOf 1 = .ok (.iload_n 1, 1) := by decide +kernel
theorem dX0_leftOf_2 : decode cX0_leftOf 2 = .ok (.invokevirtual 124, 3) := by decide +kernel
theorem dX0_leftOf_5 : decode cX0_leftOf 5 = .ok (.aload_n 0, 1) := by decide +kernel
theorem dX0_leftOf_6 : decode cX0_leftOf 6 = .ok (.getfield 16, 3) := by decide +kernel
theorem dX0_leftOf_9 : decode cX0_leftOf 9 = .ok (.iload_n 1, 1) := by decide +kernel
theorem dX0_leftOf_10 : decode cX0_leftOf 10 = .ok (.invokestatic 100, 3) := by decide +kernel
theorem dX0_leftOf_13 : decode cX0_leftOf 13 = .ok (.ireturn, 1) := by decide +kernel
set_option maxRecDepth 20000 in
theorem ggX0_rightOf_X0_requireFork : GoodIn wsX0_rightOf wsX0_requireFork := goodIn_ca (goodIn_r _ [6, 7, 8, 9, 10, 11, 5, 12, 13, 14, 15, 16, 17, 18, 19, 20, 21, 25, 26, 27, 28, 29, 30, 31, 32, 33, 34, 35, 36, 37, 38, 39, 40, 41, 42] (by decide +kernel) (by decide +kernel)) (goodIn_sub (fun _ h => List.mem_cons_of_mem _ (List.mem_append_right _ h)) (by decide +kernel))
set_option maxRecDepth 20000 in
theorem gX0_rightOf_X0_requireFork : GoodIn wsX0_rightOf (wsV RX0 124 RX0 yX0_requireFork wsX0_requireFork) := goodIn_app (goodIn_of _ (by decide +kernel)) ggX0_rightOf_X0_requireFork
set_option maxRecDepth 20000 in
theorem ggX0_rightOf_X0_at : GoodIn wsX0_rightOf wsX0_at := goodIn_r _ [24] (by decide +kernel) (by decide +kernel)
set_option maxRecDepth 20000 in
theorem gX0_rightOf_X0_at : GoodIn wsX0_rightOf (va_wsS RX0 100 yX0_at wsX0_at) := goodIn_app (goodIn_of _ (by decide +kernel)) ggX0_rightOf_X0_at
theorem dX0_rightOf_0 : decode cX0_rightOf 0 = .ok (.aload_n 0, 1) := by decide +kernel
theorem dX0_rightOf_1 : decode cX0_rightOf 1 = .ok (.iload_n 1, 1) := by decide +kernel
theorem dX0_rightOf_2 : decode cX0_rightOf 2 = .ok (.invokevirtual 124, 3) := by decide +kernel
theorem dX0_rightOf_5 : decode cX0_rightOf 5 = .ok (.aload_n 0, 1) := by decide +kernel
theorem dX0_rightOf_6 : decode cX0_rightOf 6 = .ok (.getfield 19, 3) := by decide +kernel
theorem dX0_rightOf_9 : decode cX0_rightOf 9 = .ok (.iload_n 1, 1) := by decide +kernel
theorem dX0_rightOf_10 : decode cX0_rightOf 10 = .ok (.invokestatic 100, 3) := by decide +kernel
theorem dX0_rightOf_13 : decode cX0_rightOf 13 = .ok (.ireturn, 1) := by decide +kernel
set_option maxRecDepth 20000 in
theorem ggX0_weightOf_X0_requireFork : GoodIn wsX0_weightOf wsX0_requireFork := goodIn_ca (goodIn_r _ [6, 7, 8, 9, 10, 11, 5, 12, 13, 14, 15, 16, 17, 18, 19, 20, 21, 25, 26, 27, 28, 29, 30, 31, 32, 33, 34, 35, 36, 37, 38, 39, 40, 41, 42] (by decide +kernel) (by decide +kernel)) (goodIn_sub (fun _ h => List.mem_cons_of_mem _ (List.mem_append_right _ h)) (by decide +kernel))
set_option maxRecDepth 20000 in
theorem gX0_weightOf_X0_requireFork : GoodIn wsX0_weightOf (wsV RX0 124 RX0 yX0_requireFork wsX0_requireFork) := goodIn_app (goodIn_of _ (by decide +kernel)) ggX0_weightOf_X0_requireFork
set_option maxRecDepth 20000 in
theorem ggX0_weightOf_X0_at : GoodIn wsX0_weightOf wsX0_at := goodIn_r _ [24] (by decide +kernel) (by decide +kernel)
set_option maxRecDepth 20000 in
theorem gX0_weightOf_X0_at : GoodIn wsX0_weightOf (va_wsS RX0 100 yX0_at wsX0_at) := goodIn_app (goodIn_of _ (by decide +kernel)) ggX0_weightOf_X0_at
theorem dX0_weightOf_0 : decode cX0_weightOf 0 = .ok (.aload_n 0, 1) := by decide +kernel
theorem dX0_weightOf_1 : decode cX0_weightOf 1 = .ok (.iload_n 1, 1) := by decide +kernel
theorem dX0_weightOf_2 : decode cX0_weightOf 2 = .ok (.invokevirtual 124, 3) := by decide +kernel
theorem dX0_weightOf_5 : decode cX0_weightOf 5 = .ok (.aload_n 0, 1) := by decide +kernel
theorem dX0_weightOf_6 : decode cX0_weightOf 6 = .ok (.getfield 22, 3) := by decide +kernel
theorem dX0_weightOf_9 : decode cX0_weightOf 9 = .ok (.iload_n 1, 1) := by decide +kernel
theorem dX0_weightOf_10 : decode cX0_weightOf 10 = .ok (.invokestatic 100, 3) := by decide +kernel
theorem dX0_weightOf_13 : decode cX0_weightOf 13 = .ok (.ireturn, 1) := by decide +kernel
set_option maxRecDepth 20000 in
theorem ggX0_placeOf_X0_requireStudent : GoodIn wsX0_placeOf wsX0_requireStudent := goodIn_ca (goodIn_r _ [6, 7, 8, 9, 13, 14, 15, 16, 17, 18, 19, 20, 21, 22, 23, 24, 25, 26, 27, 28, 29, 30] (by decide +kernel) (by decide +kernel)) (goodIn_sub (fun _ h => List.mem_cons_of_mem _ (List.mem_append_right _ h)) (by decide +kernel))
set_option maxRecDepth 20000 in
theorem gX0_placeOf_X0_requireStudent : GoodIn wsX0_placeOf (wsV RX0 132 RX0 yX0_requireStudent wsX0_requireStudent) := goodIn_app (goodIn_of _ (by decide +kernel)) ggX0_placeOf_X0_requireStudent
set_option maxRecDepth 20000 in
theorem ggX0_placeOf_X0_at : GoodIn wsX0_placeOf wsX0_at := goodIn_r _ [12] (by decide +kernel) (by decide +kernel)
set_option maxRecDepth 20000 in
theorem gX0_placeOf_X0_at : GoodIn wsX0_placeOf (va_wsS RX0 100 yX0_at wsX0_at) := goodIn_app (goodIn_of _ (by decide +kernel)) ggX0_placeOf_X0_at
theorem dX0_placeOf_0 : decode cX0_placeOf 0 = .ok (.aload_n 0, 1) := by decide +kernel
theorem dX0_placeOf_1 : decode cX0_placeOf 1 = .ok (.iload_n 1, 1) := by decide +kernel
theorem dX0_placeOf_2 : decode cX0_placeOf 2 = .ok (.invokevirtual 132, 3) := by decide +kernel
theorem dX0_placeOf_5 : decode cX0_placeOf 5 = .ok (.aload_n 0, 1) := by decide +kernel
theorem dX0_placeOf_6 : decode cX0_placeOf 6 = .ok (.getfield 41, 3) := by decide +kernel
theorem dX0_placeOf_9 : decode cX0_placeOf 9 = .ok (.iload_n 1, 1) := by decide +kernel
theorem dX0_placeOf_10 : decode cX0_placeOf 10 = .ok (.invokestatic 100, 3) := by decide +kernel
theorem dX0_placeOf_13 : decode cX0_placeOf 13 = .ok (.ireturn, 1) := by decide +kernel
set_option maxRecDepth 20000 in
theorem ggX0_passedBy_X0_requireStudent : GoodIn wsX0_passedBy wsX0_requireStudent := goodIn_ca (goodIn_r _ [6, 7, 8, 9, 13, 14, 15, 16, 17, 18, 19, 20, 21, 22, 23, 24, 25, 26, 27, 28, 29, 30] (by decide +kernel) (by decide +kernel)) (goodIn_sub (fun _ h => List.mem_cons_of_mem _ (List.mem_append_right _ h)) (by decide +kernel))
set_option maxRecDepth 20000 in
theorem gX0_passedBy_X0_requireStudent : GoodIn wsX0_passedBy (wsV RX0 132 RX0 yX0_requireStudent wsX0_requireStudent) := goodIn_app (goodIn_of _ (by decide +kernel)) ggX0_passedBy_X0_requireStudent
set_option maxRecDepth 20000 in
theorem ggX0_passedBy_X0_at : GoodIn wsX0_passedBy wsX0_at := goodIn_r _ [12] (by decide +kernel) (by decide +kernel)
set_option maxRecDepth 20000 in
theorem gX0_passedBy_X0_at : GoodIn wsX0_passedBy (va_wsS RX0 100 yX0_at wsX0_at) := goodIn_app (goodIn_of _ (by decide +kernel)) ggX0_passedBy_X0_at
theorem dX0_passedBy_0 : decode cX0_passedBy 0 = .ok (.aload_n 0, 1) := by decide +kernel
theorem dX0_passedBy_1 : decode cX0_passedBy 1 = .ok (.iload_n 1, 1) := by decide +kernel
theorem dX0_passedBy_2 : decode cX0_passedBy 2 = .ok (.invokevirtual 132, 3) := by decide +kernel
theorem dX0_passedBy_5 : decode cX0_passedBy 5 = .ok (.aload_n 0, 1) := by decide +kernel
theorem dX0_passedBy_6 : decode cX0_passedBy 6 = .ok (.getfield 44, 3) := by decide +kernel
theorem dX0_passedBy_9 : decode cX0_passedBy 9 = .ok (.iload_n 1, 1) := by decide +kernel
theorem dX0_passedBy_10 : decode cX0_passedBy 10 = .ok (.invokestatic 100, 3) := by decide +kernel
theorem dX0_passedBy_13 : decode cX0_passedBy 13 = .ok (.ireturn, 1) := by decide +kernel
set_option maxRecDepth 20000 in
theorem ggX0_sureGrade_X0_requirePlace : GoodIn wsX0_sureGrade wsX0_requirePlace := goodIn_ca (goodIn_r _ [6, 7, 8, 9, 13, 14, 15, 16, 17, 18, 19, 20, 21, 22, 23, 24, 25, 26, 27, 28, 29, 30] (by decide +kernel) (by decide +kernel)) (goodIn_sub (fun _ h => List.mem_cons_of_mem _ (List.mem_append_right _ h)) (by decide +kernel))
set_option maxRecDepth 20000 in
theorem gX0_sureGrade_X0_requirePlace : GoodIn wsX0_sureGrade (wsV RX0 84 RX0 yX0_requirePlace wsX0_requirePlace) := goodIn_app (goodIn_of _ (by decide +kernel)) ggX0_sureGrade_X0_requirePlace
set_option maxRecDepth 20000 in
theorem ggX0_sureGrade_X0_at : GoodIn wsX0_sureGrade wsX0_at := goodIn_r _ [12] (by decide +kernel) (by decide +kernel)
set_option maxRecDepth 20000 in
theorem gX0_sureGrade_X0_at : GoodIn wsX0_sureGrade (va_wsS RX0 100 yX0_at wsX0_at) := goodIn_app (goodIn_of _ (by decide +kernel)) ggX0_sureGrade_X0_at
theorem dX0_sureGrade_0 : decode cX0_sureGrade 0 = .ok (.aload_n 0, 1) := by decide +kernel
theorem dX0_sureGrade_1 : decode cX0_sureGrade 1 = .ok (.iload_n 1, 1) := by decide +kernel
theorem dX0_sureGrade_2 : decode cX0_sureGrade 2 = .ok (.invokevirtual 84, 3) := by decide +kernel
theorem dX0_sureGrade_5 : decode cX0_sureGrade 5 = .ok (.aload_n 0, 1) := by decide +kernel
theorem dX0_sureGrade_6 : decode cX0_sureGrade 6 = .ok (.getfield 28, 3) := by decide +kernel
theorem dX0_sureGrade_9 : decode cX0_sureGrade 9 = .ok (.iload_n 1, 1) := by decide +kernel
theorem dX0_sureGrade_10 : decode cX0_sureGrade 10 = .ok (.invokestatic 100, 3) := by decide +kernel
theorem dX0_sureGrade_13 : decode cX0_sureGrade 13 = .ok (.ireturn, 1) := by decide +kernel
set_option maxRecDepth 20000 in
theorem ggX0_hope_X0_requirePlace : GoodIn wsX0_hope wsX0_requirePlace := goodIn_ca (goodIn_r _ [6, 7, 8, 9, 13, 14, 15, 16, 17, 18, 19, 20, 21, 22, 23, 24, 25, 26, 27, 28, 29, 30] (by decide +kernel) (by decide +kernel)) (goodIn_sub (fun _ h => List.mem_cons_of_mem _ (List.mem_append_right _ h)) (by decide +kernel))
set_option maxRecDepth 20000 in
theorem gX0_hope_X0_requirePlace : GoodIn wsX0_hope (wsV RX0 84 RX0 yX0_requirePlace wsX0_requirePlace) := goodIn_app (goodIn_of _ (by decide +kernel)) ggX0_hope_X0_requirePlace
set_option maxRecDepth 20000 in
theorem ggX0_hope_X0_at : GoodIn wsX0_hope wsX0_at := goodIn_r _ [12] (by decide +kernel) (by decide +kernel)
set_option maxRecDepth 20000 in
theorem gX0_hope_X0_at : GoodIn wsX0_hope (va_wsS RX0 100 yX0_at wsX0_at) := goodIn_app (goodIn_of _ (by decide +kernel)) ggX0_hope_X0_at
theorem dX0_hope_0 : decode cX0_hope 0 = .ok (.aload_n 0, 1) := by decide +kernel
theorem dX0_hope_1 : decode cX0_hope 1 = .ok (.iload_n 1, 1) := by decide +kernel
theorem dX0_hope_2 : decode cX0_hope 2 = .ok (.invokevirtual 84, 3) := by decide +kernel
theorem dX0_hope_5 : decode cX0_hope 5 = .ok (.aload_n 0, 1) := by decide +kernel
theorem dX0_hope_6 : decode cX0_hope 6 = .ok (.getfield 31, 3) := by decide +kernel
theorem dX0_hope_9 : decode cX0_hope 9 = .ok (.iload_n 1, 1) := by decide +kernel
theorem dX0_hope_10 : decode cX0_hope 10 = .ok (.invokestatic 100, 3) := by decide +kernel
theorem dX0_hope_13 : decode cX0_hope 13 = .ok (.ireturn, 1) := by decide +kernel
set_option maxRecDepth 20000 in
theorem ggX0_reaches_X0_requirePlace : GoodIn wsX0_reaches wsX0_requirePlace := goodIn_ca (goodIn_r _ [6, 7, 8, 9, 16, 17, 18, 19, 20, 21, 22, 23, 24, 25, 26, 27, 28, 29, 30, 31, 32, 33] (by decide +kernel) (by decide +kernel)) (goodIn_sub (fun _ h => List.mem_cons_of_mem _ (List.mem_append_right _ h)) (by decide +kernel))
set_option maxRecDepth 20000 in
theorem gX0_reaches_X0_requirePlace : GoodIn wsX0_reaches (wsV RX0 84 RX0 yX0_requirePlace wsX0_requirePlace) := goodIn_app (goodIn_of _ (by decide +kernel)) ggX0_reaches_X0_requirePlace
set_option maxRecDepth 20000 in
theorem ggX0_reaches_X0_bitsAt : GoodIn wsX0_reaches wsX0_bitsAt := goodIn_r _ [12] (by decide +kernel) (by decide +kernel)
set_option maxRecDepth 20000 in
theorem gX0_reaches_X0_bitsAt : GoodIn wsX0_reaches (va_wsS RX0 90 yX0_bitsAt wsX0_bitsAt) := goodIn_app (goodIn_of _ (by decide +kernel)) ggX0_reaches_X0_bitsAt
set_option maxRecDepth 20000 in
theorem ggX0_reaches_X0_bitOf : GoodIn wsX0_reaches wsX0_bitOf := goodIn_r _ [15] (by decide +kernel) (by decide +kernel)
set_option maxRecDepth 20000 in
theorem gX0_reaches_X0_bitOf : GoodIn wsX0_reaches (va_wsS RX0 68 yX0_bitOf wsX0_bitOf) := goodIn_app (goodIn_of _ (by decide +kernel)) ggX0_reaches_X0_bitOf
theorem dX0_reaches_0 : decode cX0_reaches 0 = .ok (.aload_n 0, 1) := by decide +kernel
theorem dX0_reaches_1 : decode cX0_reaches 1 = .ok (.iload_n 1, 1) := by decide +kernel
theorem dX0_reaches_2 : decode cX0_reaches 2 = .ok (.invokevirtual 84, 3) := by decide +kernel
theorem dX0_reaches_5 : decode cX0_reaches 5 = .ok (.aload_n 0, 1) := by decide +kernel
theorem dX0_reaches_6 : decode cX0_reaches 6 = .ok (.iload_n 2, 1) := by decide +kernel
theorem dX0_reaches_7 : decode cX0_reaches 7 = .ok (.invokevirtual 84, 3) := by decide +kernel
theorem dX0_reaches_10 : decode cX0_reaches 10 = .ok (.aload_n 0, 1) := by decide +kernel
theorem dX0_reaches_11 : decode cX0_reaches 11 = .ok (.getfield 37, 3) := by decide +kernel
theorem dX0_reaches_14 : decode cX0_reaches 14 = .ok (.iload_n 1, 1) := by decide +kernel
theorem dX0_reaches_15 : decode cX0_reaches 15 = .ok (.invokestatic 90, 3) := by decide +kernel
theorem dX0_reaches_18 : decode cX0_reaches 18 = .ok (.iload_n 2, 1) := by decide +kernel
theorem dX0_reaches_19 : decode cX0_reaches 19 = .ok (.invokestatic 68, 3) := by decide +kernel
theorem dX0_reaches_22 : decode cX0_reaches 22 = .ok (.land, 1) := by decide +kernel
theorem dX0_reaches_23 : decode cX0_reaches 23 = .ok (.lconst 0, 1) := by decide +kernel
theorem dX0_reaches_24 : decode cX0_reaches 24 = .ok (.lcmp, 1) := by decide +kernel
theorem dX0_reaches_25 : decode cX0_reaches 25 = .ok (.ifCond .eq 7, 3) := by decide +kernel
theorem dX0_reaches_28 : decode cX0_reaches 28 = .ok (.iconst 1, 1) := by decide +kernel
theorem dX0_reaches_29 : decode cX0_reaches 29 = .ok (.goto 4, 3) := by decide +kernel
theorem dX0_reaches_32 : decode cX0_reaches 32 = .ok (.iconst 0, 1) := by decide +kernel
theorem dX0_reaches_33 : decode cX0_reaches 33 = .ok (.ireturn, 1) := by decide +kernel
set_option maxRecDepth 20000 in
theorem ggX0_examsFrom_X0_requirePlace : GoodIn wsX0_examsFrom wsX0_requirePlace := goodIn_ca (goodIn_r _ [7, 8, 9, 10, 21, 22, 23, 24, 25, 26, 27, 28, 29, 30, 31, 32, 33, 34, 35, 36, 37, 38] (by decide +kernel) (by decide +kernel)) (goodIn_sub (fun _ h => List.mem_cons_of_mem _ (List.mem_append_right _ h)) (by decide +kernel))
set_option maxRecDepth 20000 in
theorem gX0_examsFrom_X0_requirePlace : GoodIn wsX0_examsFrom (wsV RX0 84 RX0 yX0_requirePlace wsX0_requirePlace) := goodIn_app (goodIn_of _ (by decide +kernel)) ggX0_examsFrom_X0_requirePlace
set_option maxRecDepth 20000 in
theorem ggX0_examsFrom_X0_bitsAt : GoodIn wsX0_examsFrom wsX0_bitsAt := goodIn_r _ [13] (by decide +kernel) (by decide +kernel)
set_option maxRecDepth 20000 in
theorem gX0_examsFrom_X0_bitsAt : GoodIn wsX0_examsFrom (va_wsS RX0 90 yX0_bitsAt wsX0_bitsAt) := goodIn_app (goodIn_of _ (by decide +kernel)) ggX0_examsFrom_X0_bitsAt
set_option maxRecDepth 20000 in
theorem ggX0_examsFrom_J13_bitCount_95d88 : GoodIn wsX0_examsFrom wsJ13_bitCount_95d88 := goodIn_r _ [17, 18, 19, 20] (by decide +kernel) (by decide +kernel)
set_option maxRecDepth 20000 in
theorem gX0_examsFrom_J13_bitCount_95d88 : GoodIn wsX0_examsFrom (va_wsS RX0 153 yJ13_bitCount_95d88 wsJ13_bitCount_95d88) := goodIn_app (goodIn_of _ (by decide +kernel)) ggX0_examsFrom_J13_bitCount_95d88
theorem dX0_examsFrom_0 : decode cX0_examsFrom 0 = .ok (.aload_n 0, 1) := by decide +kernel
theorem dX0_examsFrom_1 : decode cX0_examsFrom 1 = .ok (.iload_n 1, 1) := by decide +kernel
theorem dX0_examsFrom_2 : decode cX0_examsFrom 2 = .ok (.invokevirtual 84, 3) := by decide +kernel
theorem dX0_examsFrom_5 : decode cX0_examsFrom 5 = .ok (.aload_n 0, 1) := by decide +kernel
theorem dX0_examsFrom_6 : decode cX0_examsFrom 6 = .ok (.getfield 37, 3) := by decide +kernel
theorem dX0_examsFrom_9 : decode cX0_examsFrom 9 = .ok (.iload_n 1, 1) := by decide +kernel
theorem dX0_examsFrom_10 : decode cX0_examsFrom 10 = .ok (.invokestatic 90, 3) := by decide +kernel
theorem dX0_examsFrom_13 : decode cX0_examsFrom 13 = .ok (.aload_n 0, 1) := by decide +kernel
theorem dX0_examsFrom_14 : decode cX0_examsFrom 14 = .ok (.getfield 64, 3) := by decide +kernel
theorem dX0_examsFrom_17 : decode cX0_examsFrom 17 = .ok (.land, 1) := by decide +kernel
theorem dX0_examsFrom_18 : decode cX0_examsFrom 18 = .ok (.invokestatic 153, 3) := by decide +kernel
theorem dX0_examsFrom_21 : decode cX0_examsFrom 21 = .ok (.ireturn, 1) := by decide +kernel
set_option maxRecDepth 20000 in
theorem ggX0_risk_X0_requireFork : GoodIn wsX0_risk wsX0_requireFork := goodIn_ca (goodIn_r _ [5, 6, 7, 8, 9, 10, 4, 11, 12, 13, 14, 15, 16, 17, 18, 19, 20, 41, 42, 43, 44, 45, 46, 47, 48, 49, 50, 51, 52, 53, 54, 55, 56, 57, 58] (by decide +kernel) (by decide +kernel)) (goodIn_sub (fun _ h => List.mem_cons_of_mem _ (List.mem_append_right _ h)) (by decide +kernel))
set_option maxRecDepth 20000 in
theorem gX0_risk_X0_requireFork : GoodIn wsX0_risk (wsV RX0 124 RX0 yX0_requireFork wsX0_requireFork) := goodIn_app (goodIn_of _ (by decide +kernel)) ggX0_risk_X0_requireFork
set_option maxRecDepth 20000 in
theorem ggX0_risk_X0_riskOfPath : GoodIn wsX0_risk wsX0_riskOfPath := goodIn_r _ [24, 25, 26, 27, 28, 29, 30, 31, 32, 33, 34, 4, 35, 36, 37, 38, 39, 40, 41, 42, 43, 44, 45, 46, 47, 48, 49, 50, 51, 52, 53, 54, 55, 56, 57, 58] (by decide +kernel) (by decide +kernel)
set_option maxRecDepth 20000 in
theorem gX0_risk_X0_riskOfPath : GoodIn wsX0_risk (wsV RX0 159 RX0 yX0_riskOfPath wsX0_riskOfPath) := goodIn_app (goodIn_of _ (by decide +kernel)) ggX0_risk_X0_riskOfPath
theorem dX0_risk_0 : decode cX0_risk 0 = .ok (.aload_n 0, 1) := by decide +kernel
theorem dX0_risk_1 : decode cX0_risk 1 = .ok (.iload_n 1, 1) := by decide +kernel
theorem dX0_risk_2 : decode cX0_risk 2 = .ok (.invokevirtual 124, 3) := by decide +kernel
theorem dX0_risk_5 : decode cX0_risk 5 = .ok (.aload_n 0, 1) := by decide +kernel
theorem dX0_risk_6 : decode cX0_risk 6 = .ok (.iload_n 1, 1) := by decide +kernel
theorem dX0_risk_7 : decode cX0_risk 7 = .ok (.iload_n 2, 1) := by decide +kernel
theorem dX0_risk_8 : decode cX0_risk 8 = .ok (.invokevirtual 159, 3) := by decide +kernel
theorem dX0_risk_11 : decode cX0_risk 11 = .ok (.ireturn, 1) := by decide +kernel
set_option maxRecDepth 20000 in
theorem ggX0_planTurnsRight_X0_requireFork : GoodIn wsX0_planTurnsRight wsX0_requireFork := goodIn_ca (goodIn_r _ [5, 6, 7, 8, 9, 10, 4, 11, 12, 13, 14, 15, 16, 17, 18, 19, 20, 45, 46, 47, 48, 49, 50, 51, 52, 53, 54, 55, 56, 57, 58, 59, 60, 61, 62] (by decide +kernel) (by decide +kernel)) (goodIn_sub (fun _ h => List.mem_cons_of_mem _ (List.mem_append_right _ h)) (by decide +kernel))
set_option maxRecDepth 20000 in
theorem gX0_planTurnsRight_X0_requireFork : GoodIn wsX0_planTurnsRight (wsV RX0 124 RX0 yX0_requireFork wsX0_requireFork) := goodIn_app (goodIn_of _ (by decide +kernel)) ggX0_planTurnsRight_X0_requireFork
set_option maxRecDepth 20000 in
theorem ggX0_planTurnsRight_X0_plansRight : GoodIn wsX0_planTurnsRight wsX0_plansRight := goodIn_r _ [24, 25, 26, 27, 4, 28, 29, 30, 31, 32, 33, 34, 35, 36, 37, 38, 39, 40, 41, 42, 43, 44, 45, 46, 47, 48, 49, 50, 51, 52, 53, 54, 55, 56, 57, 58, 59, 60, 61, 62] (by decide +kernel) (by decide +kernel)
set_option maxRecDepth 20000 in
theorem gX0_planTurnsRight_X0_plansRight : GoodIn wsX0_planTurnsRight (wsV RX0 150 RX0 yX0_plansRight wsX0_plansRight) := goodIn_app (goodIn_of _ (by decide +kernel)) ggX0_planTurnsRight_X0_plansRight
theorem dX0_planTurnsRight_0 : decode cX0_planTurnsRight 0 = .ok (.aload_n 0, 1) := by decide +kernel
theorem dX0_planTurnsRight_1 : decode cX0_planTurnsRight 1 = .ok (.iload_n 1, 1) := by decide +kernel
theorem dX0_planTurnsRight_2 : decode cX0_planTurnsRight 2 = .ok (.invokevirtual 124, 3) := by decide +kernel
theorem dX0_planTurnsRight_5 : decode cX0_planTurnsRight 5 = .ok (.aload_n 0, 1) := by decide +kernel
theorem dX0_planTurnsRight_6 : decode cX0_planTurnsRight 6 = .ok (.iload_n 1, 1) := by decide +kernel
theorem dX0_planTurnsRight_7 : decode cX0_planTurnsRight 7 = .ok (.invokevirtual 150, 3) := by decide +kernel
theorem dX0_planTurnsRight_10 : decode cX0_planTurnsRight 10 = .ok (.ireturn, 1) := by decide +kernel
set_option maxRecDepth 20000 in
theorem ggX0_planLeadsTo_X0_requirePlace : GoodIn wsX0_planLeadsTo wsX0_requirePlace := goodIn_ca (goodIn_r _ [5, 6, 7, 8, 41, 42, 43, 44, 45, 46, 47, 48, 49, 50, 51, 52, 53, 54, 55, 56, 57, 58] (by decide +kernel) (by decide +kernel)) (goodIn_sub (fun _ h => List.mem_cons_of_mem _ (List.mem_append_right _ h)) (by decide +kernel))
set_option maxRecDepth 20000 in
theorem gX0_planLeadsTo_X0_requirePlace : GoodIn wsX0_planLeadsTo (wsV RX0 84 RX0 yX0_requirePlace wsX0_requirePlace) := goodIn_app (goodIn_of _ (by decide +kernel)) ggX0_planLeadsTo_X0_requirePlace
set_option maxRecDepth 20000 in
theorem ggX0_planLeadsTo_X0_holdsExam : GoodIn wsX0_planLeadsTo wsX0_holdsExam := goodIn_r _ [12, 13, 14, 15, 4, 16, 41, 42, 43, 44, 45, 46, 47, 48, 49, 50, 51, 52, 53, 54, 55, 56, 57, 58] (by decide +kernel) (by decide +kernel)
set_option maxRecDepth 20000 in
theorem gX0_planLeadsTo_X0_holdsExam : GoodIn wsX0_planLeadsTo (wsV RX0 135 RX0 yX0_holdsExam wsX0_holdsExam) := goodIn_app (goodIn_of _ (by decide +kernel)) ggX0_planLeadsTo_X0_holdsExam
set_option maxRecDepth 20000 in
theorem ggX0_planLeadsTo_X0_plansRight : GoodIn wsX0_planLeadsTo wsX0_plansRight := goodIn_r _ [20, 21, 22, 23, 4, 24, 25, 26, 27, 28, 29, 30, 31, 32, 33, 34, 35, 36, 37, 38, 39, 40, 41, 42, 43, 44, 45, 46, 47, 48, 49, 50, 51, 52, 53, 54, 55, 56, 57, 58] (by decide +kernel) (by decide +kernel)
set_option maxRecDepth 20000 in
theorem gX0_planLeadsTo_X0_plansRight : GoodIn wsX0_planLeadsTo (wsV RX0 150 RX0 yX0_plansRight wsX0_plansRight) := goodIn_app (goodIn_of _ (by decide +kernel)) ggX0_planLeadsTo_X0_plansRight
set_option maxRecDepth 20000 in
theorem ggX0_planLeadsTo_X0_pathFrom : GoodIn wsX0_planLeadsTo wsX0_pathFrom := goodIn_r _ [35, 36, 37, 38, 39, 4, 40, 41, 42, 43, 44, 45, 46, 47, 48, 49, 50, 51, 52, 53, 54, 55, 56, 57, 58] (by decide +kernel) (by decide +kernel)
set_option maxRecDepth 20000 in
theorem gX0_planLeadsTo_X0_pathFrom : GoodIn wsX0_planLeadsTo (wsV RX0 163 RX0 yX0_pathFrom wsX0_pathFrom) := goodIn_app (goodIn_of _ (by decide +kernel)) ggX0_planLeadsTo_X0_pathFrom
theorem dX0_planLeadsTo_0 : decode cX0_planLeadsTo 0 = .ok (.aload_n 0, 1) := by decide +kernel
theorem dX0_planLeadsTo_1 : decode cX0_planLeadsTo 1 = .ok (.iload_n 1, 1) := by decide +kernel
theorem dX0_planLeadsTo_2 : decode cX0_planLeadsTo 2 = .ok (.invokevirtual 84, 3) := by decide +kernel
theorem dX0_planLeadsTo_5 : decode cX0_planLeadsTo 5 = .ok (.iload_n 1, 1) := by decide +kernel
theorem dX0_planLeadsTo_6 : decode cX0_planLeadsTo 6 = .ok (.istore_n 2, 1) := by decide +kernel
theorem dX0_planLeadsTo_7 : decode cX0_planLeadsTo 7 = .ok (.iconst 0, 1) := by decide +kernel
theorem dX0_planLeadsTo_8 : decode cX0_planLeadsTo 8 = .ok (.istore_n 3, 1) := by decide +kernel
theorem dX0_planLeadsTo_9 : decode cX0_planLeadsTo 9 = .ok (.iload_n 3, 1) := by decide +kernel
theorem dX0_planLeadsTo_10 : decode cX0_planLeadsTo 10 = .ok (.bipush 40, 2) := by decide +kernel
theorem dX0_planLeadsTo_12 : decode cX0_planLeadsTo 12 = .ok (.if_icmp .ge 28, 3) := by decide +kernel
theorem dX0_planLeadsTo_15 : decode cX0_planLeadsTo 15 = .ok (.aload_n 0, 1) := by decide +kernel
theorem dX0_planLeadsTo_16 : decode cX0_planLeadsTo 16 = .ok (.iload_n 2, 1) := by decide +kernel
theorem dX0_planLeadsTo_17 : decode cX0_planLeadsTo 17 = .ok (.invokevirtual 135, 3) := by decide +kernel
theorem dX0_planLeadsTo_20 : decode cX0_planLeadsTo 20 = .ok (.ifCond .ne 20, 3) := by decide +kernel
theorem dX0_planLeadsTo_23 : decode cX0_planLeadsTo 23 = .ok (.aload_n 0, 1) := by decide +kernel
theorem dX0_planLeadsTo_24 : decode cX0_planLeadsTo 24 = .ok (.iload_n 2, 1) := by decide +kernel
theorem dX0_planLeadsTo_25 : decode cX0_planLeadsTo 25 = .ok (.aload_n 0, 1) := by decide +kernel
theorem dX0_planLeadsTo_26 : decode cX0_planLeadsTo 26 = .ok (.iload_n 2, 1) := by decide +kernel
theorem dX0_planLeadsTo_27 : decode cX0_planLeadsTo 27 = .ok (.invokevirtual 150, 3) := by decide +kernel
theorem dX0_planLeadsTo_30 : decode cX0_planLeadsTo 30 = .ok (.invokevirtual 163, 3) := by decide +kernel
theorem dX0_planLeadsTo_33 : decode cX0_planLeadsTo 33 = .ok (.istore_n 2, 1) := by decide +kernel
theorem dX0_planLeadsTo_34 : decode cX0_planLeadsTo 34 = .ok (.iinc 3 1, 3) := by decide +kernel
theorem dX0_planLeadsTo_37 : decode cX0_planLeadsTo 37 = .ok (.goto (-28), 3) := by decide +kernel
theorem dX0_planLeadsTo_40 : decode cX0_planLeadsTo 40 = .ok (.iload_n 2, 1) := by decide +kernel
theorem dX0_planLeadsTo_41 : decode cX0_planLeadsTo 41 = .ok (.ireturn, 1) := by decide +kernel
set_option maxRecDepth 20000 in
theorem ggX0_riskiestFork_X0_holdsExam : GoodIn wsX0_riskiestFork wsX0_holdsExam := goodIn_r _ [6, 7, 8, 9, 5, 10, 38, 39, 40, 41, 42, 43, 44, 45, 46, 47, 48, 49, 50, 51, 52, 53, 54, 55] (by decide +kernel) (by decide +kernel)
set_option maxRecDepth 20000 in
theorem gX0_riskiestFork_X0_holdsExam : GoodIn wsX0_riskiestFork (wsV RX0 135 RX0 yX0_holdsExam wsX0_holdsExam) := goodIn_app (goodIn_of _ (by decide +kernel)) ggX0_riskiestFork_X0_holdsExam
set_option maxRecDepth 20000 in
theorem ggX0_riskiestFork_X0_smallerRisk : GoodIn wsX0_riskiestFork wsX0_smallerRisk := goodIn_r _ [14, 15, 16, 17, 18, 19, 20, 21, 5, 22, 23, 24, 25, 26, 27, 28, 29, 30, 31, 32, 33, 34, 35, 36, 37, 38, 39, 40, 41, 42, 43, 44, 45, 46, 47, 48, 49, 50, 51, 52, 53, 54, 55] (by decide +kernel) (by decide +kernel)
set_option maxRecDepth 20000 in
theorem gX0_riskiestFork_X0_smallerRisk : GoodIn wsX0_riskiestFork (wsV RX0 166 RX0 yX0_smallerRisk wsX0_smallerRisk) := goodIn_app (goodIn_of _ (by decide +kernel)) ggX0_riskiestFork_X0_smallerRisk
theorem dX0_riskiestFork_0 : decode cX0_riskiestFork 0 = .ok (.iconst (-1), 1) := by decide +kernel
theorem dX0_riskiestFork_1 : decode cX0_riskiestFork 1 = .ok (.istore_n 1, 1) := by decide +kernel
theorem dX0_riskiestFork_2 : decode cX0_riskiestFork 2 = .ok (.iconst (-1), 1) := by decide +kernel
theorem dX0_riskiestFork_3 : decode cX0_riskiestFork 3 = .ok (.istore_n 2, 1) := by decide +kernel
theorem dX0_riskiestFork_4 : decode cX0_riskiestFork 4 = .ok (.iconst 0, 1) := by decide +kernel
theorem dX0_riskiestFork_5 : decode cX0_riskiestFork 5 = .ok (.istore_n 3, 1) := by decide +kernel
theorem dX0_riskiestFork_6 : decode cX0_riskiestFork 6 = .ok (.iload_n 3, 1) := by decide +kernel
theorem dX0_riskiestFork_7 : decode cX0_riskiestFork 7 = .ok (.aload_n 0, 1) := by decide +kernel
theorem dX0_riskiestFork_8 : decode cX0_riskiestFork 8 = .ok (.getfield 60, 3) := by decide +kernel
theorem dX0_riskiestFork_11 : decode cX0_riskiestFork 11 = .ok (.if_icmp .ge 34, 3) := by decide +kernel
theorem dX0_riskiestFork_14 : decode cX0_riskiestFork 14 = .ok (.aload_n 0, 1) := by decide +kernel
theorem dX0_riskiestFork_15 : decode cX0_riskiestFork 15 = .ok (.iload_n 3, 1) := by decide +kernel
theorem dX0_riskiestFork_16 : decode cX0_riskiestFork 16 = .ok (.invokevirtual 135, 3) := by decide +kernel
theorem dX0_riskiestFork_19 : decode cX0_riskiestFork 19 = .ok (.ifCond .ne 20, 3) := by decide +kernel
theorem dX0_riskiestFork_22 : decode cX0_riskiestFork 22 = .ok (.aload_n 0, 1) := by decide +kernel
theorem dX0_riskiestFork_23 : decode cX0_riskiestFork 23 = .ok (.iload_n 3, 1) := by decide +kernel
theorem dX0_riskiestFork_24 : decode cX0_riskiestFork 24 = .ok (.invokevirtual 166, 3) := by decide +kernel
theorem dX0_riskiestFork_27 : decode cX0_riskiestFork 27 = .ok (.iload_n 2, 1) := by decide +kernel
theorem dX0_riskiestFork_28 : decode cX0_riskiestFork 28 = .ok (.if_icmp .le 11, 3) := by decide +kernel
theorem dX0_riskiestFork_31 : decode cX0_riskiestFork 31 = .ok (.iload_n 3, 1) := by decide +kernel
theorem dX0_riskiestFork_32 : decode cX0_riskiestFork 32 = .ok (.istore_n 1, 1) := by decide +kernel
theorem dX0_riskiestFork_33 : decode cX0_riskiestFork 33 = .ok (.aload_n 0, 1) := by decide +kernel
theorem dX0_riskiestFork_34 : decode cX0_riskiestFork 34 = .ok (.iload_n 3, 1) := by decide +kernel
theorem dX0_riskiestFork_35 : decode cX0_riskiestFork 35 = .ok (.invokevirtual 166, 3) := by decide +kernel
theorem dX0_riskiestFork_38 : decode cX0_riskiestFork 38 = .ok (.istore_n 2, 1) := by decide +kernel
theorem dX0_riskiestFork_39 : decode cX0_riskiestFork 39 = .ok (.iinc 3 1, 3) := by decide +kernel
theorem dX0_riskiestFork_42 : decode cX0_riskiestFork 42 = .ok (.goto (-36), 3) := by decide +kernel
theorem dX0_riskiestFork_45 : decode cX0_riskiestFork 45 = .ok (.iload_n 1, 1) := by decide +kernel
theorem dX0_riskiestFork_46 : decode cX0_riskiestFork 46 = .ok (.ireturn, 1) := by decide +kernel
set_option maxRecDepth 20000 in
theorem ggX0_hindsight_X0_requireFork : GoodIn wsX0_hindsight wsX0_requireFork := goodIn_ca (goodIn_r _ [6, 7, 8, 9, 10, 11, 5, 12, 13, 14, 15, 16, 17, 18, 19, 20, 21, 25, 26, 27, 28, 29, 30, 31, 32, 33, 34, 35, 36, 37, 38, 39, 40, 41, 42] (by decide +kernel) (by decide +kernel)) (goodIn_sub (fun _ h => List.mem_cons_of_mem _ (List.mem_append_right _ h)) (by decide +kernel))
set_option maxRecDepth 20000 in
theorem gX0_hindsight_X0_requireFork : GoodIn wsX0_hindsight (wsV RX0 124 RX0 yX0_requireFork wsX0_requireFork) := goodIn_app (goodIn_of _ (by decide +kernel)) ggX0_hindsight_X0_requireFork
set_option maxRecDepth 20000 in
theorem ggX0_hindsight_X0_at : GoodIn wsX0_hindsight wsX0_at := goodIn_r _ [24] (by decide +kernel) (by decide +kernel)
set_option maxRecDepth 20000 in
theorem gX0_hindsight_X0_at : GoodIn wsX0_hindsight (va_wsS RX0 100 yX0_at wsX0_at) := goodIn_app (goodIn_of _ (by decide +kernel)) ggX0_hindsight_X0_at
theorem dX0_hindsight_0 : decode cX0_hindsight 0 = .ok (.aload_n 0, 1) := by decide +kernel
theorem dX0_hindsight_1 : decode cX0_hindsight 1 = .ok (.iload_n 1, 1) := by decide +kernel
theorem dX0_hindsight_2 : decode cX0_hindsight 2 = .ok (.invokevirtual 124, 3) := by decide +kernel
theorem dX0_hindsight_5 : decode cX0_hindsight 5 = .ok (.aload_n 0, 1) := by decide +kernel
theorem dX0_hindsight_6 : decode cX0_hindsight 6 = .ok (.getfield 34, 3) := by decide +kernel
theorem dX0_hindsight_9 : decode cX0_hindsight 9 = .ok (.iload_n 1, 1) := by decide +kernel
theorem dX0_hindsight_10 : decode cX0_hindsight 10 = .ok (.invokestatic 100, 3) := by decide +kernel
theorem dX0_hindsight_13 : decode cX0_hindsight 13 = .ok (.ireturn, 1) := by decide +kernel
set_option maxRecDepth 20000 in
theorem ggX0_regretOf_X0_requireStudent : GoodIn wsX0_regretOf wsX0_requireStudent := goodIn_ca (goodIn_r _ [5, 6, 7, 8, 44, 45, 46, 47, 48, 49, 50, 51, 52, 53, 54, 55, 56, 57, 58, 59, 60, 61] (by decide +kernel) (by decide +kernel)) (goodIn_sub (fun _ h => List.mem_cons_of_mem _ (List.mem_append_left _ (List.mem_append_right _ h))) (by decide +kernel))
set_option maxRecDepth 20000 in
theorem gX0_regretOf_X0_requireStudent : GoodIn wsX0_regretOf (wsV RX0 132 RX0 yX0_requireStudent wsX0_requireStudent) := goodIn_app (goodIn_of _ (by decide +kernel)) ggX0_regretOf_X0_requireStudent
set_option maxRecDepth 20000 in
theorem ggX0_regretOf_X0_requireGraded : GoodIn wsX0_regretOf wsX0_requireGraded := goodIn_ca (goodIn_r _ [12, 13, 14, 15, 16, 17, 4, 18, 19, 20, 21, 22, 23, 44, 45, 46, 47, 48, 49, 50, 51, 52, 53, 54, 55, 56, 57, 58, 59, 60, 61] (by decide +kernel) (by decide +kernel)) (goodIn_sub (fun _ h => List.mem_cons_of_mem _ (List.mem_append_right _ h)) (by decide +kernel))
set_option maxRecDepth 20000 in
theorem gX0_regretOf_X0_requireGraded : GoodIn wsX0_regretOf (wsV RX0 170 RX0 yX0_requireGraded wsX0_requireGraded) := goodIn_app (goodIn_of _ (by decide +kernel)) ggX0_regretOf_X0_requireGraded
set_option maxRecDepth 20000 in
theorem ggX0_regretOf_X0_regretOfAll : GoodIn wsX0_regretOf wsX0_regretOfAll := goodIn_r _ [27, 28, 16, 17, 4, 18, 29, 30, 31, 32, 23, 15, 33, 34, 35, 36, 37, 38, 39, 40, 41, 42, 43, 44, 45, 46, 47, 48, 49, 50, 51, 52, 53, 54, 55, 56, 57, 58, 59, 60, 61] (by decide +kernel) (by decide +kernel)
set_option maxRecDepth 20000 in
theorem gX0_regretOf_X0_regretOfAll : GoodIn wsX0_regretOf (wsV RX0 173 RX0 yX0_regretOfAll wsX0_regretOfAll) := goodIn_app (goodIn_of _ (by decide +kernel)) ggX0_regretOf_X0_regretOfAll
theorem dX0_regretOf_0 : decode cX0_regretOf 0 = .ok (.aload_n 0, 1) := by decide +kernel
theorem dX0_regretOf_1 : decode cX0_regretOf 1 = .ok (.iload_n 1, 1) := by decide +kernel
theorem dX0_regretOf_2 : decode cX0_regretOf 2 = .ok (.invokevirtual 132, 3) := by decide +kernel
theorem dX0_regretOf_5 : decode cX0_regretOf 5 = .ok (.aload_n 0, 1) := by decide +kernel
theorem dX0_regretOf_6 : decode cX0_regretOf 6 = .ok (.iload_n 1, 1) := by decide +kernel
theorem dX0_regretOf_7 : decode cX0_regretOf 7 = .ok (.invokevirtual 170, 3) := by decide +kernel
theorem dX0_regretOf_10 : decode cX0_regretOf 10 = .ok (.aload_n 0, 1) := by decide +kernel
theorem dX0_regretOf_11 : decode cX0_regretOf 11 = .ok (.iload_n 1, 1) := by decide +kernel
theorem dX0_regretOf_12 : decode cX0_regretOf 12 = .ok (.invokevirtual 173, 3) := by decide +kernel
theorem dX0_regretOf_15 : decode cX0_regretOf 15 = .ok (.ireturn, 1) := by decide +kernel
set_option maxRecDepth 20000 in
theorem ggX0_worstFork_X0_requireStudent : GoodIn wsX0_worstFork wsX0_requireStudent := goodIn_ca (goodIn_r _ [6, 7, 8, 9, 40, 41, 42, 43, 44, 45, 46, 47, 48, 49, 50, 51, 52, 53, 54, 55, 56, 57] (by decide +kernel) (by decide +kernel)) (goodIn_sub (fun _ h => List.mem_cons_of_mem _ (List.mem_append_left _ (List.mem_append_right _ h))) (by decide +kernel))
set_option maxRecDepth 20000 in
theorem gX0_worstFork_X0_requireStudent : GoodIn wsX0_worstFork (wsV RX0 132 RX0 yX0_requireStudent wsX0_requireStudent) := goodIn_app (goodIn_of _ (by decide +kernel)) ggX0_worstFork_X0_requireStudent
set_option maxRecDepth 20000 in
theorem ggX0_worstFork_X0_requireGraded : GoodIn wsX0_worstFork wsX0_requireGraded := goodIn_ca (goodIn_r _ [13, 14, 15, 16, 17, 18, 5, 19, 20, 21, 22, 23, 24, 40, 41, 42, 43, 44, 45, 46, 47, 48, 49, 50, 51, 52, 53, 54, 55, 56, 57] (by decide +kernel) (by decide +kernel)) (goodIn_sub (fun _ h => List.mem_cons_of_mem _ (List.mem_append_right _ h)) (by decide +kernel))
set_option maxRecDepth 20000 in
theorem gX0_worstFork_X0_requireGraded : GoodIn wsX0_worstFork (wsV RX0 170 RX0 yX0_requireGraded wsX0_requireGraded) := goodIn_app (goodIn_of _ (by decide +kernel)) ggX0_worstFork_X0_requireGraded
set_option maxRecDepth 20000 in
theorem ggX0_worstFork_X0_at : GoodIn wsX0_worstFork wsX0_at := goodIn_r _ [19] (by decide +kernel) (by decide +kernel)
set_option maxRecDepth 20000 in
theorem gX0_worstFork_X0_at : GoodIn wsX0_worstFork (va_wsS RX0 100 yX0_at wsX0_at) := goodIn_app (goodIn_of _ (by decide +kernel)) ggX0_worstFork_X0_at
set_option maxRecDepth 20000 in
theorem ggX0_worstFork_X0_regretOfStep : GoodIn wsX0_worstFork wsX0_regretOfStep := goodIn_r _ [28, 24, 16, 29, 30, 31, 32, 33, 34, 35, 36, 37, 5, 38, 39, 17, 18, 19, 40, 41, 42, 43, 44, 45, 46, 47, 48, 49, 50, 51, 52, 53, 54, 55, 56, 57] (by decide +kernel) (by decide +kernel)
set_option maxRecDepth 20000 in
theorem gX0_worstFork_X0_regretOfStep : GoodIn wsX0_worstFork (wsV RX0 176 RX0 yX0_regretOfStep wsX0_regretOfStep) := goodIn_app (goodIn_of _ (by decide +kernel)) ggX0_worstFork_X0_regretOfStep
set_option maxRecDepth 20000 in
theorem ggX0_worstFork_X0_passedFork : GoodIn wsX0_worstFork wsX0_passedFork := goodIn_r _ [38, 39, 17, 18, 5, 19, 40, 41, 42, 43, 44, 45, 46, 47, 48, 49, 50, 51, 52, 53, 54, 55, 56, 57] (by decide +kernel) (by decide +kernel)
set_option maxRecDepth 20000 in
theorem gX0_worstFork_X0_passedFork : GoodIn wsX0_worstFork (wsV RX0 146 RX0 yX0_passedFork wsX0_passedFork) := goodIn_app (goodIn_of _ (by decide +kernel)) ggX0_worstFork_X0_passedFork
theorem dX0_worstFork_0 : decode cX0_worstFork 0 = .ok (.aload_n 0, 1) := by decide +kernel
theorem dX0_worstFork_1 : decode cX0_worstFork 1 = .ok (.iload_n 1, 1) := by decide +kernel
theorem dX0_worstFork_2 : decode cX0_worstFork 2 = .ok (.invokevirtual 132, 3) := by decide +kernel
theorem dX0_worstFork_5 : decode cX0_worstFork 5 = .ok (.aload_n 0, 1) := by decide +kernel
theorem dX0_worstFork_6 : decode cX0_worstFork 6 = .ok (.iload_n 1, 1) := by decide +kernel
theorem dX0_worstFork_7 : decode cX0_worstFork 7 = .ok (.invokevirtual 170, 3) := by decide +kernel
theorem dX0_worstFork_10 : decode cX0_worstFork 10 = .ok (.iconst (-1), 1) := by decide +kernel
theorem dX0_worstFork_11 : decode cX0_worstFork 11 = .ok (.istore_n 2, 1) := by decide +kernel
theorem dX0_worstFork_12 : decode cX0_worstFork 12 = .ok (.iconst 0, 1) := by decide +kernel
theorem dX0_worstFork_13 : decode cX0_worstFork 13 = .ok (.istore_n 3, 1) := by decide +kernel
theorem dX0_worstFork_14 : decode cX0_worstFork 14 = .ok (.aload_n 0, 1) := by decide +kernel
theorem dX0_worstFork_15 : decode cX0_worstFork 15 = .ok (.getfield 44, 3) := by decide +kernel
theorem dX0_worstFork_18 : decode cX0_worstFork 18 = .ok (.iload_n 1, 1) := by decide +kernel
theorem dX0_worstFork_19 : decode cX0_worstFork 19 = .ok (.invokestatic 100, 3) := by decide +kernel
theorem dX0_worstFork_22 : decode cX0_worstFork 22 = .ok (.istore 4, 2) := by decide +kernel
theorem dX0_worstFork_24 : decode cX0_worstFork 24 = .ok (.iconst 0, 1) := by decide +kernel
theorem dX0_worstFork_25 : decode cX0_worstFork 25 = .ok (.istore 5, 2) := by decide +kernel
theorem dX0_worstFork_27 : decode cX0_worstFork 27 = .ok (.iload 5, 2) := by decide +kernel
theorem dX0_worstFork_29 : decode cX0_worstFork 29 = .ok (.iload 4, 2) := by decide +kernel
theorem dX0_worstFork_31 : decode cX0_worstFork 31 = .ok (.if_icmp .ge 35, 3) := by decide +kernel
theorem dX0_worstFork_34 : decode cX0_worstFork 34 = .ok (.aload_n 0, 1) := by decide +kernel
theorem dX0_worstFork_35 : decode cX0_worstFork 35 = .ok (.iload_n 1, 1) := by decide +kernel
theorem dX0_worstFork_36 : decode cX0_worstFork 36 = .ok (.iload 5, 2) := by decide +kernel
theorem dX0_worstFork_38 : decode cX0_worstFork 38 = .ok (.invokevirtual 176, 3) := by decide +kernel
theorem dX0_worstFork_41 : decode cX0_worstFork 41 = .ok (.istore 6, 2) := by decide +kernel
theorem dX0_worstFork_43 : decode cX0_worstFork 43 = .ok (.iload 6, 2) := by decide +kernel
theorem dX0_worstFork_45 : decode cX0_worstFork 45 = .ok (.iload_n 3, 1) := by decide +kernel
theorem dX0_worstFork_46 : decode cX0_worstFork 46 = .ok (.if_icmp .le 14, 3) := by decide +kernel
theorem dX0_worstFork_49 : decode cX0_worstFork 49 = .ok (.aload_n 0, 1) := by decide +kernel
theorem dX0_worstFork_50 : decode cX0_worstFork 50 = .ok (.iload_n 1, 1) := by decide +kernel
theorem dX0_worstFork_51 : decode cX0_worstFork 51 = .ok (.iload 5, 2) := by decide +kernel
theorem dX0_worstFork_53 : decode cX0_worstFork 53 = .ok (.invokevirtual 146, 3) := by decide +kernel
theorem dX0_worstFork_56 : decode cX0_worstFork 56 = .ok (.istore_n 2, 1) := by decide +kernel
theorem dX0_worstFork_57 : decode cX0_worstFork 57 = .ok (.iload 6, 2) := by decide +kernel
theorem dX0_worstFork_59 : decode cX0_worstFork 59 = .ok (.istore_n 3, 1) := by decide +kernel
theorem dX0_worstFork_60 : decode cX0_worstFork 60 = .ok (.iinc 5 1, 3) := by decide +kernel
theorem dX0_worstFork_63 : decode cX0_worstFork 63 = .ok (.goto (-36), 3) := by decide +kernel
theorem dX0_worstFork_66 : decode cX0_worstFork 66 = .ok (.iload_n 2, 1) := by decide +kernel
theorem dX0_worstFork_67 : decode cX0_worstFork 67 = .ok (.ireturn, 1) := by decide +kernel
set_option maxRecDepth 20000 in
theorem ggX0_allRegret_X0_at : GoodIn wsX0_allRegret wsX0_at := goodIn_r _ [6] (by decide +kernel) (by decide +kernel)
set_option maxRecDepth 20000 in
theorem gX0_allRegret_X0_at : GoodIn wsX0_allRegret (va_wsS RX0 100 yX0_at wsX0_at) := goodIn_app (goodIn_of _ (by decide +kernel)) ggX0_allRegret_X0_at
set_option maxRecDepth 20000 in
theorem ggX0_allRegret_X0_hasGrade : GoodIn wsX0_allRegret wsX0_hasGrade := goodIn_r _ [10, 11, 3, 4, 5, 6, 32, 33, 34, 35, 36, 37, 38, 39, 40, 41, 42, 43, 44, 45, 46, 47, 48, 49] (by decide +kernel) (by decide +kernel)
set_option maxRecDepth 20000 in
theorem gX0_allRegret_X0_hasGrade : GoodIn wsX0_allRegret (wsV RX0 106 RX0 yX0_hasGrade wsX0_hasGrade) := goodIn_app (goodIn_of _ (by decide +kernel)) ggX0_allRegret_X0_hasGrade
set_option maxRecDepth 20000 in
theorem ggX0_allRegret_X0_regretOfAll : GoodIn wsX0_allRegret wsX0_regretOfAll := goodIn_r _ [15, 16, 3, 4, 5, 6, 17, 18, 19, 20, 11, 2, 21, 22, 23, 24, 25, 26, 27, 28, 29, 30, 31, 32, 33, 34, 35, 36, 37, 38, 39, 40, 41, 42, 43, 44, 45, 46, 47, 48, 49] (by decide +kernel) (by decide +kernel)
set_option maxRecDepth 20000 in
theorem gX0_allRegret_X0_regretOfAll : GoodIn wsX0_allRegret (wsV RX0 173 RX0 yX0_regretOfAll wsX0_regretOfAll) := goodIn_app (goodIn_of _ (by decide +kernel)) ggX0_allRegret_X0_regretOfAll
theorem dX0_allRegret_0 : decode cX0_allRegret 0 = .ok (.iconst 0, 1) := by decide +kernel
theorem dX0_allRegret_1 : decode cX0_allRegret 1 = .ok (.istore_n 1, 1) := by decide +kernel
theorem dX0_allRegret_2 : decode cX0_allRegret 2 = .ok (.iconst 0, 1) := by decide +kernel
theorem dX0_allRegret_3 : decode cX0_allRegret 3 = .ok (.istore_n 2, 1) := by decide +kernel
theorem dX0_allRegret_4 : decode cX0_allRegret 4 = .ok (.iload_n 2, 1) := by decide +kernel
theorem dX0_allRegret_5 : decode cX0_allRegret 5 = .ok (.aload_n 0, 1) := by decide +kernel
theorem dX0_allRegret_6 : decode cX0_allRegret 6 = .ok (.getfield 127, 3) := by decide +kernel
theorem dX0_allRegret_9 : decode cX0_allRegret 9 = .ok (.if_icmp .ge 32, 3) := by decide +kernel
theorem dX0_allRegret_12 : decode cX0_allRegret 12 = .ok (.aload_n 0, 1) := by decide +kernel
theorem dX0_allRegret_13 : decode cX0_allRegret 13 = .ok (.aload_n 0, 1) := by decide +kernel
theorem dX0_allRegret_14 : decode cX0_allRegret 14 = .ok (.getfield 41, 3) := by decide +kernel
theorem dX0_allRegret_17 : decode cX0_allRegret 17 = .ok (.iload_n 2, 1) := by decide +kernel
theorem dX0_allRegret_18 : decode cX0_allRegret 18 = .ok (.invokestatic 100, 3) := by decide +kernel
theorem dX0_allRegret_21 : decode cX0_allRegret 21 = .ok (.invokevirtual 106, 3) := by decide +kernel
theorem dX0_allRegret_24 : decode cX0_allRegret 24 = .ok (.ifCond .eq 11, 3) := by decide +kernel
theorem dX0_allRegret_27 : decode cX0_allRegret 27 = .ok (.iload_n 1, 1) := by decide +kernel
theorem dX0_allRegret_28 : decode cX0_allRegret 28 = .ok (.aload_n 0, 1) := by decide +kernel
theorem dX0_allRegret_29 : decode cX0_allRegret 29 = .ok (.iload_n 2, 1) := by decide +kernel
theorem dX0_allRegret_30 : decode cX0_allRegret 30 = .ok (.invokevirtual 173, 3) := by decide +kernel
theorem dX0_allRegret_33 : decode cX0_allRegret 33 = .ok (.iadd, 1) := by decide +kernel
theorem dX0_allRegret_34 : decode cX0_allRegret 34 = .ok (.istore_n 1, 1) := by decide +kernel
theorem dX0_allRegret_35 : decode cX0_allRegret 35 = .ok (.iinc 2 1, 3) := by decide +kernel
theorem dX0_allRegret_38 : decode cX0_allRegret 38 = .ok (.goto (-34), 3) := by decide +kernel
theorem dX0_allRegret_41 : decode cX0_allRegret 41 = .ok (.iload_n 1, 1) := by decide +kernel
theorem dX0_allRegret_42 : decode cX0_allRegret 42 = .ok (.ireturn, 1) := by decide +kernel
theorem dX0_meanGrade_0 : decode cX0_meanGrade 0 = .ok (.aload_n 0, 1) := by decide +kernel
theorem dX0_meanGrade_1 : decode cX0_meanGrade 1 = .ok (.getfield 115, 3) := by decide +kernel
theorem dX0_meanGrade_4 : decode cX0_meanGrade 4 = .ok (.ifCond .ne 5, 3) := by decide +kernel
theorem dX0_meanGrade_7 : decode cX0_meanGrade 7 = .ok (.dconst 0, 1) := by decide +kernel
theorem dX0_meanGrade_8 : decode cX0_meanGrade 8 = .ok (.dreturn, 1) := by decide +kernel
theorem dX0_meanGrade_9 : decode cX0_meanGrade 9 = .ok (.aload_n 0, 1) := by decide +kernel
theorem dX0_meanGrade_10 : decode cX0_meanGrade 10 = .ok (.getfield 118, 3) := by decide +kernel
theorem dX0_meanGrade_13 : decode cX0_meanGrade 13 = .ok (.i2d, 1) := by decide +kernel
theorem dX0_meanGrade_14 : decode cX0_meanGrade 14 = .ok (.aload_n 0, 1) := by decide +kernel
theorem dX0_meanGrade_15 : decode cX0_meanGrade 15 = .ok (.getfield 115, 3) := by decide +kernel
theorem dX0_meanGrade_18 : decode cX0_meanGrade 18 = .ok (.i2d, 1) := by decide +kernel
theorem dX0_meanGrade_19 : decode cX0_meanGrade 19 = .ok (.ddiv, 1) := by decide +kernel
theorem dX0_meanGrade_20 : decode cX0_meanGrade 20 = .ok (.dreturn, 1) := by decide +kernel
set_option maxRecDepth 20000 in
theorem ggX0_digest_X0_places : GoodIn wsX0_digest wsX0_places := goodIn_r _ [8, 2, 179, 180, 181, 182, 183, 184, 185, 186, 187, 188, 189, 190, 191, 192, 193, 194, 195, 196] (by decide +kernel) (by decide +kernel)
set_option maxRecDepth 20000 in
theorem gX0_digest_X0_places : GoodIn wsX0_digest (wsV RX0 181 RX0 yX0_places wsX0_places) := goodIn_app (goodIn_of _ (by decide +kernel)) ggX0_digest_X0_places
set_option maxRecDepth 20000 in
theorem ggX0_digest_X0_mix : GoodIn wsX0_digest wsX0_mix := goodIn_r _ [11, 12] (by decide +kernel) (by decide +kernel)
set_option maxRecDepth 20000 in
theorem gX0_digest_X0_mix : GoodIn wsX0_digest (va_wsS RX0 185 yX0_mix wsX0_mix) := goodIn_app (goodIn_of _ (by decide +kernel)) ggX0_digest_X0_mix
set_option maxRecDepth 20000 in
theorem ggX0_digest_X0_exams : GoodIn wsX0_digest wsX0_exams := goodIn_r _ [16, 17, 18, 19, 20, 21, 22, 23, 24, 179, 180, 181, 182, 183, 184, 185, 186, 187, 188, 189, 190, 191, 192, 193, 194, 195, 196] (by decide +kernel) (by decide +kernel)
set_option maxRecDepth 20000 in
theorem gX0_digest_X0_exams : GoodIn wsX0_digest (wsV RX0 189 RX0 yX0_exams wsX0_exams) := goodIn_app (goodIn_of _ (by decide +kernel)) ggX0_digest_X0_exams
set_option maxRecDepth 20000 in
theorem ggX0_digest_X0_graded : GoodIn wsX0_digest wsX0_graded := goodIn_r _ [28, 29, 179, 180, 181, 182, 183, 184, 185, 186, 187, 188, 189, 190, 191, 192, 193, 194, 195, 196] (by decide +kernel) (by decide +kernel)
set_option maxRecDepth 20000 in
theorem gX0_digest_X0_graded : GoodIn wsX0_digest (wsV RX0 192 RX0 yX0_graded wsX0_graded) := goodIn_app (goodIn_of _ (by decide +kernel)) ggX0_digest_X0_graded
set_option maxRecDepth 20000 in
theorem ggX0_digest_X0_students : GoodIn wsX0_digest wsX0_students := goodIn_r _ [33, 3, 179, 180, 181, 182, 183, 184, 185, 186, 187, 188, 189, 190, 191, 192, 193, 194, 195, 196] (by decide +kernel) (by decide +kernel)
set_option maxRecDepth 20000 in
theorem gX0_digest_X0_students : GoodIn wsX0_digest (wsV RX0 195 RX0 yX0_students wsX0_students) := goodIn_app (goodIn_of _ (by decide +kernel)) ggX0_digest_X0_students
set_option maxRecDepth 20000 in
theorem ggX0_digest_X0_atExams : GoodIn wsX0_digest wsX0_atExams := goodIn_r _ [37, 3, 38, 39, 40, 7, 41, 42, 43, 44, 45, 17, 46, 47, 48, 179, 180, 181, 182, 183, 184, 185, 186, 187, 188, 189, 190, 191, 192, 193, 194, 195, 196] (by decide +kernel) (by decide +kernel)
set_option maxRecDepth 20000 in
theorem gX0_digest_X0_atExams : GoodIn wsX0_digest (wsV RX0 198 RX0 yX0_atExams wsX0_atExams) := goodIn_app (goodIn_of _ (by decide +kernel)) ggX0_digest_X0_atExams
set_option maxRecDepth 20000 in
theorem ggX0_digest_X0_riskiestFork : GoodIn wsX0_digest wsX0_riskiestFork := goodIn_r _ [52, 2, 42, 43, 44, 7, 45, 17, 46, 47, 48, 53, 54, 55, 56, 57, 58, 59, 60, 61, 62, 63, 64, 65, 66, 67, 68, 69, 70, 71, 72, 73, 74, 75, 76, 39, 40, 41, 179, 180, 181, 182, 183, 184, 185, 186, 187, 188, 189, 190, 191, 192, 193, 194, 195, 196] (by decide +kernel) (by decide +kernel)
set_option maxRecDepth 20000 in
theorem gX0_digest_X0_riskiestFork : GoodIn wsX0_digest (wsV RX0 201 RX0 yX0_riskiestFork wsX0_riskiestFork) := goodIn_app (goodIn_of _ (by decide +kernel)) ggX0_digest_X0_riskiestFork
set_option maxRecDepth 20000 in
theorem ggX0_digest_X0_allRegret : GoodIn wsX0_digest wsX0_allRegret := goodIn_r _ [80, 3, 38, 39, 40, 7, 41, 81, 82, 83, 84, 85, 86, 87, 88, 89, 90, 91, 92, 93, 94, 95, 67, 68, 59, 69, 70, 96, 97, 98, 99, 100, 179, 180, 181, 182, 183, 184, 185, 186, 187, 188, 189, 190, 191, 192, 193, 194, 195, 196] (by decide +kernel) (by decide +kernel)
set_option maxRecDepth 20000 in
theorem gX0_digest_X0_allRegret : GoodIn wsX0_digest (wsV RX0 204 RX0 yX0_allRegret wsX0_allRegret) := goodIn_app (goodIn_of _ (by decide +kernel)) ggX0_digest_X0_allRegret
set_option maxRecDepth 20000 in
theorem ggX0_digest_X0_mixPlace : GoodIn wsX0_digest wsX0_mixPlace := goodIn_ca (goodIn_r _ [104, 105, 106, 107, 7, 108, 109, 110, 111, 112, 113, 114, 2, 42, 43, 44, 45, 17, 46, 47, 48, 9, 10, 11, 12, 115, 116, 117, 118, 65, 39, 40, 41, 119, 120, 121, 122, 66, 123, 124, 125, 126, 127, 128, 129, 130, 18, 19, 20, 21, 22, 23, 24, 131, 132, 133, 134, 135, 136, 137, 138, 61, 62, 63, 64, 67, 68, 59, 69, 70, 71, 72, 73, 74, 75, 76, 139, 140, 141, 142, 85, 143, 144, 145, 146, 147, 148, 149, 150, 151, 152, 153, 154, 155, 156, 157, 158, 159, 160, 161, 162, 163, 164, 165, 166, 95, 179, 180, 181, 182, 183, 184, 185, 186, 187, 188, 189, 190, 191, 192, 193, 194, 195, 196] (by decide +kernel) (by decide +kernel)) (goodIn_sub (fun _ h => List.mem_cons_of_mem _ (List.mem_append_right _ h)) (by decide +kernel))
set_option maxRecDepth 20000 in
theorem gX0_digest_X0_mixPlace : GoodIn wsX0_digest (wsV RX0 207 RX0 yX0_mixPlace wsX0_mixPlace) := goodIn_app (goodIn_of _ (by decide +kernel)) ggX0_digest_X0_mixPlace
set_option maxRecDepth 20000 in
theorem ggX0_digest_X0_placeOf : GoodIn wsX0_digest wsX0_placeOf := goodIn_ca (goodIn_r _ [170, 38, 171, 172, 173, 7, 174, 113, 114, 3, 39, 40, 41, 179, 180, 181, 182, 183, 184, 185, 186, 187, 188, 189, 190, 191, 192, 193, 194, 195, 196] (by decide +kernel) (by decide +kernel)) (goodIn_sub (fun _ h => List.mem_cons_of_mem _ (List.mem_append_right _ h)) (by decide +kernel))
set_option maxRecDepth 20000 in
theorem gX0_digest_X0_placeOf : GoodIn wsX0_digest (wsV RX0 210 RX0 yX0_placeOf wsX0_placeOf) := goodIn_app (goodIn_of _ (by decide +kernel)) ggX0_digest_X0_placeOf
set_option maxRecDepth 20000 in
theorem ggX0_digest_X0_passedBy : GoodIn wsX0_digest wsX0_passedBy := goodIn_ca (goodIn_r _ [178, 90, 171, 172, 173, 7, 174, 113, 114, 3, 39, 40, 41, 179, 180, 181, 182, 183, 184, 185, 186, 187, 188, 189, 190, 191, 192, 193, 194, 195, 196] (by decide +kernel) (by decide +kernel)) (goodIn_sub (fun _ h => List.mem_cons_of_mem _ (List.mem_append_right _ h)) (by decide +kernel))
set_option maxRecDepth 20000 in
theorem gX0_digest_X0_passedBy : GoodIn wsX0_digest (wsV RX0 213 RX0 yX0_passedBy wsX0_passedBy) := goodIn_app (goodIn_of _ (by decide +kernel)) ggX0_digest_X0_passedBy
theorem dX0_digest_0 : decode cX0_digest 0 = .ok (.ldc2_w 179, 3) := by decide +kernel
theorem dX0_digest_3 : decode cX0_digest 3 = .ok (.lstore_n 1, 1) := by decide +kernel
theorem dX0_digest_4 : decode cX0_digest 4 = .ok (.lload_n 1, 1) := by decide +kernel
theorem dX0_digest_5 : decode cX0_digest 5 = .ok (.aload_n 0, 1) := by decide +kernel
theorem dX0_digest_6 : decode cX0_digest 6 = .ok (.invokevirtual 181, 3) := by decide +kernel
theorem dX0_digest_9 : decode cX0_digest 9 = .ok (.invokestatic 185, 3) := by decide +kernel
theorem dX0_digest_12 : decode cX0_digest 12 = .ok (.lstore_n 1, 1) := by decide +kernel
theorem dX0_digest_13 : decode cX0_digest 13 = .ok (.lload_n 1, 1) := by decide +kernel
theorem dX0_digest_14 : decode cX0_digest 14 = .ok (.aload_n 0, 1) := by decide +kernel
theorem dX0_digest_15 : decode cX0_digest 15 = .ok (.invokevirtual 189, 3) := by decide +kernel
theorem dX0_digest_18 : decode cX0_digest 18 = .ok (.invokestatic 185, 3) := by decide +kernel
theorem dX0_digest_21 : decode cX0_digest 21 = .ok (.lstore_n 1, 1) := by decide +kernel
theorem dX0_digest_22 : decode cX0_digest 22 = .ok (.lload_n 1, 1) := by decide +kernel
theorem dX0_digest_23 : decode cX0_digest 23 = .ok (.aload_n 0, 1) := by decide +kernel
theorem dX0_digest_24 : decode cX0_digest 24 = .ok (.invokevirtual 192, 3) := by decide +kernel
theorem dX0_digest_27 : decode cX0_digest 27 = .ok (.invokestatic 185, 3) := by decide +kernel
theorem dX0_digest_30 : decode cX0_digest 30 = .ok (.lstore_n 1, 1) := by decide +kernel
theorem dX0_digest_31 : decode cX0_digest 31 = .ok (.lload_n 1, 1) := by decide +kernel
theorem dX0_digest_32 : decode cX0_digest 32 = .ok (.aload_n 0, 1) := by decide +kernel
theorem dX0_digest_33 : decode cX0_digest 33 = .ok (.invokevirtual 195, 3) := by decide +kernel
theorem dX0_digest_36 : decode cX0_digest 36 = .ok (.invokestatic 185, 3) := by decide +kernel
theorem dX0_digest_39 : decode cX0_digest 39 = .ok (.lstore_n 1, 1) := by decide +kernel
theorem dX0_digest_40 : decode cX0_digest 40 = .ok (.lload_n 1, 1) := by decide +kernel
theorem dX0_digest_41 : decode cX0_digest 41 = .ok (.aload_n 0, 1) := by decide +kernel
theorem dX0_digest_42 : decode cX0_digest 42 = .ok (.invokevirtual 198, 3) := by decide +kernel
theorem dX0_digest_45 : decode cX0_digest 45 = .ok (.invokestatic 185, 3) := by decide +kernel
theorem dX0_digest_48 : decode cX0_digest 48 = .ok (.lstore_n 1, 1) := by decide +kernel
theorem dX0_digest_49 : decode cX0_digest 49 = .ok (.lload_n 1, 1) := by decide +kernel
theorem dX0_digest_50 : decode cX0_digest 50 = .ok (.aload_n 0, 1) := by decide +kernel
theorem dX0_digest_51 : decode cX0_digest 51 = .ok (.invokevirtual 201, 3) := by decide +kernel
theorem dX0_digest_54 : decode cX0_digest 54 = .ok (.invokestatic 185, 3) := by decide +kernel
theorem dX0_digest_57 : decode cX0_digest 57 = .ok (.lstore_n 1, 1) := by decide +kernel
theorem dX0_digest_58 : decode cX0_digest 58 = .ok (.lload_n 1, 1) := by decide +kernel
theorem dX0_digest_59 : decode cX0_digest 59 = .ok (.aload_n 0, 1) := by decide +kernel
theorem dX0_digest_60 : decode cX0_digest 60 = .ok (.invokevirtual 204, 3) := by decide +kernel
theorem dX0_digest_63 : decode cX0_digest 63 = .ok (.invokestatic 185, 3) := by decide +kernel
theorem dX0_digest_66 : decode cX0_digest 66 = .ok (.lstore_n 1, 1) := by decide +kernel
theorem dX0_digest_67 : decode cX0_digest 67 = .ok (.iconst 0, 1) := by decide +kernel
theorem dX0_digest_68 : decode cX0_digest 68 = .ok (.istore_n 3, 1) := by decide +kernel
theorem dX0_digest_69 : decode cX0_digest 69 = .ok (.iload_n 3, 1) := by decide +kernel
theorem dX0_digest_70 : decode cX0_digest 70 = .ok (.aload_n 0, 1) := by decide +kernel
theorem dX0_digest_71 : decode cX0_digest 71 = .ok (.getfield 60, 3) := by decide +kernel
theorem dX0_digest_74 : decode cX0_digest 74 = .ok (.if_icmp .ge 16, 3) := by decide +kernel
theorem dX0_digest_77 : decode cX0_digest 77 = .ok (.aload_n 0, 1) := by decide +kernel
theorem dX0_digest_78 : decode cX0_digest 78 = .ok (.lload_n 1, 1) := by decide +kernel
theorem dX0_digest_79 : decode cX0_digest 79 = .ok (.iload_n 3, 1) := by decide +kernel
theorem dX0_digest_80 : decode cX0_digest 80 = .ok (.invokevirtual 207, 3) := by decide +kernel
theorem dX0_digest_83 : decode cX0_digest 83 = .ok (.lstore_n 1, 1) := by decide +kernel
theorem dX0_digest_84 : decode cX0_digest 84 = .ok (.iinc 3 1, 3) := by decide +kernel
theorem dX0_digest_87 : decode cX0_digest 87 = .ok (.goto (-18), 3) := by decide +kernel
theorem dX0_digest_90 : decode cX0_digest 90 = .ok (.iconst 0, 1) := by decide +kernel
theorem dX0_digest_91 : decode cX0_digest 91 = .ok (.istore_n 3, 1) := by decide +kernel
theorem dX0_digest_92 : decode cX0_digest 92 = .ok (.iload_n 3, 1) := by decide +kernel
theorem dX0_digest_93 : decode cX0_digest 93 = .ok (.aload_n 0, 1) := by decide +kernel
theorem dX0_digest_94 : decode cX0_digest 94 = .ok (.getfield 127, 3) := by decide +kernel
theorem dX0_digest_97 : decode cX0_digest 97 = .ok (.if_icmp .ge 29, 3) := by decide +kernel
theorem dX0_digest_100 : decode cX0_digest 100 = .ok (.lload_n 1, 1) := by decide +kernel
theorem dX0_digest_101 : decode cX0_digest 101 = .ok (.aload_n 0, 1) := by decide +kernel
theorem dX0_digest_102 : decode cX0_digest 102 = .ok (.iload_n 3, 1) := by decide +kernel
theorem dX0_digest_103 : decode cX0_digest 103 = .ok (.invokevirtual 210, 3) := by decide +kernel
theorem dX0_digest_106 : decode cX0_digest 106 = .ok (.invokestatic 185, 3) := by decide +kernel
theorem dX0_digest_109 : decode cX0_digest 109 = .ok (.lstore_n 1, 1) := by decide +kernel
theorem dX0_digest_110 : decode cX0_digest 110 = .ok (.lload_n 1, 1) := by decide +kernel
theorem dX0_digest_111 : decode cX0_digest 111 = .ok (.aload_n 0, 1) := by decide +kernel
theorem dX0_digest_112 : decode cX0_digest 112 = .ok (.iload_n 3, 1) := by decide +kernel
theorem dX0_digest_113 : decode cX0_digest 113 = .ok (.invokevirtual 213, 3) := by decide +kernel
theorem dX0_digest_116 : decode cX0_digest 116 = .ok (.invokestatic 185, 3) := by decide +kernel
theorem dX0_digest_119 : decode cX0_digest 119 = .ok (.lstore_n 1, 1) := by decide +kernel
theorem dX0_digest_120 : decode cX0_digest 120 = .ok (.iinc 3 1, 3) := by decide +kernel
theorem dX0_digest_123 : decode cX0_digest 123 = .ok (.goto (-31), 3) := by decide +kernel
theorem dX0_digest_126 : decode cX0_digest 126 = .ok (.lload_n 1, 1) := by decide +kernel
theorem dX0_digest_127 : decode cX0_digest 127 = .ok (.lreturn, 1) := by decide +kernel
set_option maxRecDepth 20000 in
theorem ggX0_mixPlace_X0_isExam : GoodIn wsX0_mixPlace wsX0_isExam := goodIn_ca (goodIn_r _ [5, 6, 7, 8, 4, 9, 10, 11, 12, 13, 14, 15, 16, 17, 18, 19, 20, 106, 107, 108, 109, 110, 111, 112, 113, 114, 115, 116, 117, 118, 119, 120, 121, 122, 123] (by decide +kernel) (by decide +kernel)) (goodIn_sub (fun _ h => List.mem_cons_of_mem _ (List.mem_append_right _ h)) (by decide +kernel))
set_option maxRecDepth 20000 in
theorem gX0_mixPlace_X0_isExam : GoodIn wsX0_mixPlace (wsV RX0 216 RX0 yX0_isExam wsX0_isExam) := goodIn_app (goodIn_of _ (by decide +kernel)) ggX0_mixPlace_X0_isExam
set_option maxRecDepth 20000 in
theorem ggX0_mixPlace_X0_mix : GoodIn wsX0_mixPlace wsX0_mix := goodIn_r _ [23, 24] (by decide +kernel) (by decide +kernel)
set_option maxRecDepth 20000 in
theorem gX0_mixPlace_X0_mix : GoodIn wsX0_mixPlace (va_wsS RX0 185 yX0_mix wsX0_mix) := goodIn_app (goodIn_of _ (by decide +kernel)) ggX0_mixPlace_X0_mix
set_option maxRecDepth 20000 in
theorem ggX0_mixPlace_X0_sureGrade : GoodIn wsX0_mixPlace wsX0_sureGrade := goodIn_ca (goodIn_r _ [28, 29, 6, 7, 8, 4, 9, 10, 11, 12, 30, 31, 32, 106, 107, 108, 109, 110, 111, 112, 113, 114, 115, 116, 117, 118, 119, 120, 121, 122, 123] (by decide +kernel) (by decide +kernel)) (goodIn_sub (fun _ h => List.mem_cons_of_mem _ (List.mem_append_right _ h)) (by decide +kernel))
set_option maxRecDepth 20000 in
theorem gX0_mixPlace_X0_sureGrade : GoodIn wsX0_mixPlace (wsV RX0 219 RX0 yX0_sureGrade wsX0_sureGrade) := goodIn_app (goodIn_of _ (by decide +kernel)) ggX0_mixPlace_X0_sureGrade
set_option maxRecDepth 20000 in
theorem ggX0_mixPlace_X0_hope : GoodIn wsX0_mixPlace wsX0_hope := goodIn_ca (goodIn_r _ [36, 37, 6, 7, 8, 4, 9, 10, 11, 12, 30, 31, 32, 106, 107, 108, 109, 110, 111, 112, 113, 114, 115, 116, 117, 118, 119, 120, 121, 122, 123] (by decide +kernel) (by decide +kernel)) (goodIn_sub (fun _ h => List.mem_cons_of_mem _ (List.mem_append_right _ h)) (by decide +kernel))
set_option maxRecDepth 20000 in
theorem gX0_mixPlace_X0_hope : GoodIn wsX0_mixPlace (wsV RX0 222 RX0 yX0_hope wsX0_hope) := goodIn_app (goodIn_of _ (by decide +kernel)) ggX0_mixPlace_X0_hope
set_option maxRecDepth 20000 in
theorem ggX0_mixPlace_X0_examsFrom : GoodIn wsX0_mixPlace wsX0_examsFrom := goodIn_ca (goodIn_r _ [41, 42, 17, 6, 7, 8, 4, 9, 10, 11, 12, 43, 44, 45, 46, 47, 48, 49, 50, 51, 52, 106, 107, 108, 109, 110, 111, 112, 113, 114, 115, 116, 117, 118, 119, 120, 121, 122, 123] (by decide +kernel) (by decide +kernel)) (goodIn_sub (fun _ h => List.mem_cons_of_mem _ (List.mem_append_right _ h)) (by decide +kernel))
set_option maxRecDepth 20000 in
theorem gX0_mixPlace_X0_examsFrom : GoodIn wsX0_mixPlace (wsV RX0 225 RX0 yX0_examsFrom wsX0_examsFrom) := goodIn_app (goodIn_of _ (by decide +kernel)) ggX0_mixPlace_X0_examsFrom
set_option maxRecDepth 20000 in
theorem ggX0_mixPlace_X0_planLeadsTo : GoodIn wsX0_mixPlace wsX0_planLeadsTo := goodIn_ca (goodIn_r _ [56, 6, 7, 8, 4, 9, 10, 11, 12, 13, 14, 15, 16, 17, 18, 19, 20, 57, 58, 59, 60, 61, 62, 63, 64, 29, 37, 65, 66, 67, 68, 69, 70, 71, 72, 73, 74, 75, 30, 31, 32, 106, 107, 108, 109, 110, 111, 112, 113, 114, 115, 116, 117, 118, 119, 120, 121, 122, 123] (by decide +kernel) (by decide +kernel)) (goodIn_sub (fun _ h => List.mem_cons_of_mem _ (List.mem_append_right _ h)) (by decide +kernel))
set_option maxRecDepth 20000 in
theorem gX0_mixPlace_X0_planLeadsTo : GoodIn wsX0_mixPlace (wsV RX0 228 RX0 yX0_planLeadsTo wsX0_planLeadsTo) := goodIn_app (goodIn_of _ (by decide +kernel)) ggX0_mixPlace_X0_planLeadsTo
set_option maxRecDepth 20000 in
theorem ggX0_mixPlace_X0_holdsExam : GoodIn wsX0_mixPlace wsX0_holdsExam := goodIn_r _ [16, 17, 18, 19, 4, 20, 106, 107, 108, 109, 110, 111, 112, 113, 114, 115, 116, 117, 118, 119, 120, 121, 122, 123] (by decide +kernel) (by decide +kernel)
set_option maxRecDepth 20000 in
theorem gX0_mixPlace_X0_holdsExam : GoodIn wsX0_mixPlace (wsV RX0 135 RX0 yX0_holdsExam wsX0_holdsExam) := goodIn_app (goodIn_of _ (by decide +kernel)) ggX0_mixPlace_X0_holdsExam
set_option maxRecDepth 20000 in
theorem ggX0_mixPlace_X0_gradeOf : GoodIn wsX0_mixPlace wsX0_gradeOf := goodIn_ca (goodIn_r _ [79, 80, 81, 82, 83, 4, 84, 10, 11, 6, 7, 8, 9, 12, 13, 14, 15, 16, 17, 18, 19, 20, 30, 31, 32, 106, 107, 108, 109, 110, 111, 112, 113, 114, 115, 116, 117, 118, 119, 120, 121, 122, 123] (by decide +kernel) (by decide +kernel)) (goodIn_sub (fun _ h => List.mem_cons_of_mem _ (List.mem_append_right _ h)) (by decide +kernel))
set_option maxRecDepth 20000 in
theorem gX0_mixPlace_X0_gradeOf : GoodIn wsX0_mixPlace (wsV RX0 231 RX0 yX0_gradeOf wsX0_gradeOf) := goodIn_app (goodIn_of _ (by decide +kernel)) ggX0_mixPlace_X0_gradeOf
set_option maxRecDepth 20000 in
theorem ggX0_mixPlace_X0_leftOf : GoodIn wsX0_mixPlace wsX0_leftOf := goodIn_ca (goodIn_r _ [88, 75, 89, 90, 91, 4, 92, 10, 11, 6, 7, 8, 9, 12, 13, 14, 15, 16, 17, 18, 19, 20, 30, 31, 32, 106, 107, 108, 109, 110, 111, 112, 113, 114, 115, 116, 117, 118, 119, 120, 121, 122, 123] (by decide +kernel) (by decide +kernel)) (goodIn_sub (fun _ h => List.mem_cons_of_mem _ (List.mem_append_right _ h)) (by decide +kernel))
set_option maxRecDepth 20000 in
theorem gX0_mixPlace_X0_leftOf : GoodIn wsX0_mixPlace (wsV RX0 234 RX0 yX0_leftOf wsX0_leftOf) := goodIn_app (goodIn_of _ (by decide +kernel)) ggX0_mixPlace_X0_leftOf
set_option maxRecDepth 20000 in
theorem ggX0_mixPlace_X0_rightOf : GoodIn wsX0_mixPlace wsX0_rightOf := goodIn_ca (goodIn_r _ [96, 74, 89, 90, 91, 4, 92, 10, 11, 6, 7, 8, 9, 12, 13, 14, 15, 16, 17, 18, 19, 20, 30, 31, 32, 106, 107, 108, 109, 110, 111, 112, 113, 114, 115, 116, 117, 118, 119, 120, 121, 122, 123] (by decide +kernel) (by decide +kernel)) (goodIn_sub (fun _ h => List.mem_cons_of_mem _ (List.mem_append_right _ h)) (by decide +kernel))
set_option maxRecDepth 20000 in
theorem gX0_mixPlace_X0_rightOf : GoodIn wsX0_mixPlace (wsV RX0 237 RX0 yX0_rightOf wsX0_rightOf) := goodIn_app (goodIn_of _ (by decide +kernel)) ggX0_mixPlace_X0_rightOf
set_option maxRecDepth 20000 in
theorem ggX0_mixPlace_X0_weightOf : GoodIn wsX0_mixPlace wsX0_weightOf := goodIn_ca (goodIn_r _ [100, 69, 89, 90, 91, 4, 92, 10, 11, 6, 7, 8, 9, 12, 13, 14, 15, 16, 17, 18, 19, 20, 30, 31, 32, 106, 107, 108, 109, 110, 111, 112, 113, 114, 115, 116, 117, 118, 119, 120, 121, 122, 123] (by decide +kernel) (by decide +kernel)) (goodIn_sub (fun _ h => List.mem_cons_of_mem _ (List.mem_append_right _ h)) (by decide +kernel))
set_option maxRecDepth 20000 in
theorem gX0_mixPlace_X0_weightOf : GoodIn wsX0_mixPlace (wsV RX0 240 RX0 yX0_weightOf wsX0_weightOf) := goodIn_app (goodIn_of _ (by decide +kernel)) ggX0_mixPlace_X0_weightOf
set_option maxRecDepth 20000 in
theorem ggX0_mixPlace_X0_hindsight : GoodIn wsX0_mixPlace wsX0_hindsight := goodIn_ca (goodIn_r _ [104, 105, 89, 90, 91, 4, 92, 10, 11, 6, 7, 8, 9, 12, 13, 14, 15, 16, 17, 18, 19, 20, 30, 31, 32, 106, 107, 108, 109, 110, 111, 112, 113, 114, 115, 116, 117, 118, 119, 120, 121, 122, 123] (by decide +kernel) (by decide +kernel)) (goodIn_sub (fun _ h => List.mem_cons_of_mem _ (List.mem_append_right _ h)) (by decide +kernel))
set_option maxRecDepth 20000 in
theorem gX0_mixPlace_X0_hindsight : GoodIn wsX0_mixPlace (wsV RX0 243 RX0 yX0_hindsight wsX0_hindsight) := goodIn_app (goodIn_of _ (by decide +kernel)) ggX0_mixPlace_X0_hindsight
theorem dX0_mixPlace_0 : decode cX0_mixPlace 0 = .ok (.lload_n 1, 1) := by decide +kernel
theorem dX0_mixPlace_1 : decode cX0_mixPlace 1 = .ok (.aload_n 0, 1) := by decide +kernel
theorem dX0_mixPlace_2 : decode cX0_mixPlace 2 = .ok (.iload_n 3, 1) := by decide +kernel
theorem dX0_mixPlace_3 : decode cX0_mixPlace 3 = .ok (.invokevirtual 216, 3) := by decide +kernel
theorem dX0_mixPlace_6 : decode cX0_mixPlace 6 = .ok (.ifCond .eq 7, 3) := by decide +kernel
theorem dX0_mixPlace_9 : decode cX0_mixPlace 9 = .ok (.iconst 1, 1) := by decide +kernel
theorem dX0_mixPlace_10 : decode cX0_mixPlace 10 = .ok (.goto 4, 3) := by decide +kernel
theorem dX0_mixPlace_13 : decode cX0_mixPlace 13 = .ok (.iconst 0, 1) := by decide +kernel
theorem dX0_mixPlace_14 : decode cX0_mixPlace 14 = .ok (.invokestatic 185, 3) := by decide +kernel
theorem dX0_mixPlace_17 : decode cX0_mixPlace 17 = .ok (.lstore 4, 2) := by decide +kernel
theorem dX0_mixPlace_19 : decode cX0_mixPlace 19 = .ok (.lload 4, 2) := by decide +kernel
theorem dX0_mixPlace_21 : decode cX0_mixPlace 21 = .ok (.aload_n 0, 1) := by decide +kernel
theorem dX0_mixPlace_22 : decode cX0_mixPlace 22 = .ok (.iload_n 3, 1) := by decide +kernel
theorem dX0_mixPlace_23 : decode cX0_mixPlace 23 = .ok (.invokevirtual 219, 3) := by decide +kernel
theorem dX0_mixPlace_26 : decode cX0_mixPlace 26 = .ok (.invokestatic 185, 3) := by decide +kernel
theorem dX0_mixPlace_29 : decode cX0_mixPlace 29 = .ok (.lstore 4, 2) := by decide +kernel
theorem dX0_mixPlace_31 : decode cX0_mixPlace 31 = .ok (.lload 4, 2) := by decide +kernel
theorem dX0_mixPlace_33 : decode cX0_mixPlace 33 = .ok (.aload_n 0, 1) := by decide +kernel
theorem dX0_mixPlace_34 : decode cX0_mixPlace 34 = .ok (.iload_n 3, 1) := by decide +kernel
theorem dX0_mixPlace_35 : decode cX0_mixPlace 35 = .ok (.invokevirtual 222, 3) := by decide +kernel
theorem dX0_mixPlace_38 : decode cX0_mixPlace 38 = .ok (.invokestatic 185, 3) := by decide +kernel
theorem dX0_mixPlace_41 : decode cX0_mixPlace 41 = .ok (.lstore 4, 2) := by decide +kernel
theorem dX0_mixPlace_43 : decode cX0_mixPlace 43 = .ok (.lload 4, 2) := by decide +kernel
theorem dX0_mixPlace_45 : decode cX0_mixPlace 45 = .ok (.aload_n 0, 1) := by decide +kernel
theorem dX0_mixPlace_46 : decode cX0_mixPlace 46 = .ok (.iload_n 3, 1) := by decide +kernel
theorem dX0_mixPlace_47 : decode cX0_mixPlace 47 = .ok (.invokevirtual 225, 3) := by decide +kernel
theorem dX0_mixPlace_50 : decode cX0_mixPlace 50 = .ok (.invokestatic 185, 3) := by decide +kernel
theorem dX0_mixPlace_53 : decode cX0_mixPlace 53 = .ok (.lstore 4, 2) := by decide +kernel
theorem dX0_mixPlace_55 : decode cX0_mixPlace 55 = .ok (.lload 4, 2) := by decide +kernel
theorem dX0_mixPlace_57 : decode cX0_mixPlace 57 = .ok (.aload_n 0, 1) := by decide +kernel
theorem dX0_mixPlace_58 : decode cX0_mixPlace 58 = .ok (.iload_n 3, 1) := by decide +kernel
theorem dX0_mixPlace_59 : decode cX0_mixPlace 59 = .ok (.invokevirtual 228, 3) := by decide +kernel
theorem dX0_mixPlace_62 : decode cX0_mixPlace 62 = .ok (.invokestatic 185, 3) := by decide +kernel
theorem dX0_mixPlace_65 : decode cX0_mixPlace 65 = .ok (.lstore 4, 2) := by decide +kernel
theorem dX0_mixPlace_67 : decode cX0_mixPlace 67 = .ok (.aload_n 0, 1) := by decide +kernel
theorem dX0_mixPlace_68 : decode cX0_mixPlace 68 = .ok (.iload_n 3, 1) := by decide +kernel
theorem dX0_mixPlace_69 : decode cX0_mixPlace 69 = .ok (.invokevirtual 135, 3) := by decide +kernel
theorem dX0_mixPlace_72 : decode cX0_mixPlace 72 = .ok (.ifCond .eq 14, 3) := by decide +kernel
theorem dX0_mixPlace_75 : decode cX0_mixPlace 75 = .ok (.lload 4, 2) := by decide +kernel
theorem dX0_mixPlace_77 : decode cX0_mixPlace 77 = .ok (.aload_n 0, 1) := by decide +kernel
theorem dX0_mixPlace_78 : decode cX0_mixPlace 78 = .ok (.iload_n 3, 1) := by decide +kernel
theorem dX0_mixPlace_79 : decode cX0_mixPlace 79 = .ok (.invokevirtual 231, 3) := by decide +kernel
theorem dX0_mixPlace_82 : decode cX0_mixPlace 82 = .ok (.invokestatic 185, 3) := by decide +kernel
theorem dX0_mixPlace_85 : decode cX0_mixPlace 85 = .ok (.lreturn, 1) := by decide +kernel
theorem dX0_mixPlace_86 : decode cX0_mixPlace 86 = .ok (.lload 4, 2) := by decide +kernel
theorem dX0_mixPlace_88 : decode cX0_mixPlace 88 = .ok (.aload_n 0, 1) := by decide +kernel
theorem dX0_mixPlace_89 : decode cX0_mixPlace 89 = .ok (.iload_n 3, 1) := by decide +kernel
theorem dX0_mixPlace_90 : decode cX0_mixPlace 90 = .ok (.invokevirtual 234, 3) := by decide +kernel
theorem dX0_mixPlace_93 : decode cX0_mixPlace 93 = .ok (.invokestatic 185, 3) := by decide +kernel
theorem dX0_mixPlace_96 : decode cX0_mixPlace 96 = .ok (.lstore 4, 2) := by decide +kernel
theorem dX0_mixPlace_98 : decode cX0_mixPlace 98 = .ok (.lload 4, 2) := by decide +kernel
theorem dX0_mixPlace_100 : decode cX0_mixPlace 100 = .ok (.aload_n 0, 1) := by decide +kernel
theorem dX0_mixPlace_101 : decode cX0_mixPlace 101 = .ok (.iload_n 3, 1) := by decide +kernel
theorem dX0_mixPlace_102 : decode cX0_mixPlace 102 = .ok (.invokevirtual 237, 3) := by decide +kernel
theorem dX0_mixPlace_105 : decode cX0_mixPlace 105 = .ok (.invokestatic 185, 3) := by decide +kernel
theorem dX0_mixPlace_108 : decode cX0_mixPlace 108 = .ok (.lstore 4, 2) := by decide +kernel
theorem dX0_mixPlace_110 : decode cX0_mixPlace 110 = .ok (.lload 4, 2) := by decide +kernel
theorem dX0_mixPlace_112 : decode cX0_mixPlace 112 = .ok (.aload_n 0, 1) := by decide +kernel
theorem dX0_mixPlace_113 : decode cX0_mixPlace 113 = .ok (.iload_n 3, 1) := by decide +kernel
theorem dX0_mixPlace_114 : decode cX0_mixPlace 114 = .ok (.invokevirtual 240, 3) := by decide +kernel
theorem dX0_mixPlace_117 : decode cX0_mixPlace 117 = .ok (.invokestatic 185, 3) := by decide +kernel
theorem dX0_mixPlace_120 : decode cX0_mixPlace 120 = .ok (.lstore 4, 2) := by decide +kernel
theorem dX0_mixPlace_122 : decode cX0_mixPlace 122 = .ok (.lload 4, 2) := by decide +kernel
theorem dX0_mixPlace_124 : decode cX0_mixPlace 124 = .ok (.aload_n 0, 1) := by decide +kernel
theorem dX0_mixPlace_125 : decode cX0_mixPlace 125 = .ok (.iload_n 3, 1) := by decide +kernel
theorem dX0_mixPlace_126 : decode cX0_mixPlace 126 = .ok (.invokevirtual 243, 3) := by decide +kernel
theorem dX0_mixPlace_129 : decode cX0_mixPlace 129 = .ok (.invokestatic 185, 3) := by decide +kernel
theorem dX0_mixPlace_132 : decode cX0_mixPlace 132 = .ok (.lreturn, 1) := by decide +kernel
theorem dX0_mix_0 : decode cX0_mix 0 = .ok (.lload_n 0, 1) := by decide +kernel
theorem dX0_mix_1 : decode cX0_mix 1 = .ok (.ldc2_w 246, 3) := by decide +kernel
theorem dX0_mix_4 : decode cX0_mix 4 = .ok (.lmul, 1) := by decide +kernel
theorem dX0_mix_5 : decode cX0_mix 5 = .ok (.iload_n 2, 1) := by decide +kernel
theorem dX0_mix_6 : decode cX0_mix 6 = .ok (.i2l, 1) := by decide +kernel
theorem dX0_mix_7 : decode cX0_mix 7 = .ok (.ladd, 1) := by decide +kernel
theorem dX0_mix_8 : decode cX0_mix 8 = .ok (.lreturn, 1) := by decide +kernel
theorem dX0_requireRoom_0 : decode cX0_requireRoom 0 = .ok (.aload_n 0, 1) := by decide +kernel
theorem dX0_requireRoom_1 : decode cX0_requireRoom 1 = .ok (.getfield 60, 3) := by decide +kernel
theorem dX0_requireRoom_4 : decode cX0_requireRoom 4 = .ok (.bipush 40, 2) := by decide +kernel
theorem dX0_requireRoom_6 : decode cX0_requireRoom 6 = .ok (.if_icmp .lt 13, 3) := by decide +kernel
theorem dX0_requireRoom_9 : decode cX0_requireRoom 9 = .ok (.new 110, 3) := by decide +kernel
theorem dX0_requireRoom_12 : decode cX0_requireRoom 12 = .ok (.dup, 1) := by decide +kernel
theorem dX0_requireRoom_13 : decode cX0_requireRoom 13 = .ok (.ldc 248, 2) := by decide +kernel
theorem dX0_requireRoom_15 : decode cX0_requireRoom 15 = .ok (.invokespecial 114, 3) := by decide +kernel
theorem dX0_requireRoom_18 : decode cX0_requireRoom 18 = .ok (.athrow, 1) := by decide +kernel
theorem dX0_requireRoom_19 : decode cX0_requireRoom 19 = .ok (.return_, 1) := by decide +kernel
theorem dX0_requirePlace_0 : decode cX0_requirePlace 0 = .ok (.iload_n 1, 1) := by decide +kernel
theorem dX0_requirePlace_1 : decode cX0_requirePlace 1 = .ok (.ifCond .lt 11, 3) := by decide +kernel
theorem dX0_requirePlace_4 : decode cX0_requirePlace 4 = .ok (.iload_n 1, 1) := by decide +kernel
theorem dX0_requirePlace_5 : decode cX0_requirePlace 5 = .ok (.aload_n 0, 1) := by decide +kernel
theorem dX0_requirePlace_6 : decode cX0_requirePlace 6 = .ok (.getfield 60, 3) := by decide +kernel
theorem dX0_requirePlace_9 : decode cX0_requirePlace 9 = .ok (.if_icmp .lt 13, 3) := by decide +kernel
theorem dX0_requirePlace_12 : decode cX0_requirePlace 12 = .ok (.new 250, 3) := by decide +kernel
theorem dX0_requirePlace_15 : decode cX0_requirePlace 15 = .ok (.dup, 1) := by decide +kernel
theorem dX0_requirePlace_16 : decode cX0_requirePlace 16 = .ok (.ldc 252, 2) := by decide +kernel
theorem dX0_requirePlace_18 : decode cX0_requirePlace 18 = .ok (.invokespecial 254, 3) := by decide +kernel
theorem dX0_requirePlace_21 : decode cX0_requirePlace 21 = .ok (.athrow, 1) := by decide +kernel
theorem dX0_requirePlace_22 : decode cX0_requirePlace 22 = .ok (.return_, 1) := by decide +kernel
set_option maxRecDepth 20000 in
theorem ggX0_requireExam_X0_requirePlace : GoodIn wsX0_requireExam wsX0_requirePlace := goodIn_ca (goodIn_r _ [7, 1, 2, 8, 17, 18, 19, 20, 21, 22, 23, 24, 25, 26, 27, 28, 29, 30, 31, 32, 33, 34] (by decide +kernel) (by decide +kernel)) (goodIn_sub (fun _ h => List.mem_cons_of_mem _ (List.mem_append_right _ h)) (by decide +kernel))
set_option maxRecDepth 20000 in
theorem gX0_requireExam_X0_requirePlace : GoodIn wsX0_requireExam (wsV RX0 84 RX0 yX0_requirePlace wsX0_requirePlace) := goodIn_app (goodIn_of _ (by decide +kernel)) ggX0_requireExam_X0_requirePlace
set_option maxRecDepth 20000 in
theorem ggX0_requireExam_X0_holdsExam : GoodIn wsX0_requireExam wsX0_holdsExam := goodIn_r _ [12, 13, 14, 15, 6, 16, 17, 18, 19, 20, 21, 22, 23, 24, 25, 26, 27, 28, 29, 30, 31, 32, 33, 34] (by decide +kernel) (by decide +kernel)
set_option maxRecDepth 20000 in
theorem gX0_requireExam_X0_holdsExam : GoodIn wsX0_requireExam (wsV RX0 135 RX0 yX0_holdsExam wsX0_holdsExam) := goodIn_app (goodIn_of _ (by decide +kernel)) ggX0_requireExam_X0_holdsExam
theorem dX0_requireExam_0 : decode cX0_requireExam 0 = .ok (.aload_n 0, 1) := by decide +kernel
theorem dX0_requireExam_1 : decode cX0_requireExam 1 = .ok (.iload_n 1, 1) := by decide +kernel
theorem dX0_requireExam_2 : decode cX0_requireExam 2 = .ok (.invokevirtual 84, 3) := by decide +kernel
theorem dX0_requireExam_5 : decode cX0_requireExam 5 = .ok (.aload_n 0, 1) := by decide +kernel
theorem dX0_requireExam_6 : decode cX0_requireExam 6 = .ok (.iload_n 1, 1) := by decide +kernel
theorem dX0_requireExam_7 : decode cX0_requireExam 7 = .ok (.invokevirtual 135, 3) := by decide +kernel
theorem dX0_requireExam_10 : decode cX0_requireExam 10 = .ok (.ifCond .ne 13, 3) := by decide +kernel
theorem dX0_requireExam_13 : decode cX0_requireExam 13 = .ok (.new 250, 3) := by decide +kernel
theorem dX0_requireExam_16 : decode cX0_requireExam 16 = .ok (.dup, 1) := by decide +kernel
theorem dX0_requireExam_17 : decode cX0_requireExam 17 = .ok (.ldc 255, 2) := by decide +kernel
theorem dX0_requireExam_19 : decode cX0_requireExam 19 = .ok (.invokespecial 254, 3) := by decide +kernel
theorem dX0_requireExam_22 : decode cX0_requireExam 22 = .ok (.athrow, 1) := by decide +kernel
theorem dX0_requireExam_23 : decode cX0_requireExam 23 = .ok (.return_, 1) := by decide +kernel
set_option maxRecDepth 20000 in
theorem ggX0_requireFork_X0_requirePlace : GoodIn wsX0_requireFork wsX0_requirePlace := goodIn_ca (goodIn_r _ [7, 1, 2, 8, 17, 18, 19, 20, 21, 22, 23, 24, 25, 26, 27, 28, 29, 30, 31, 32, 33, 34] (by decide +kernel) (by decide +kernel)) (goodIn_sub (fun _ h => List.mem_cons_of_mem _ (List.mem_append_right _ h)) (by decide +kernel))
set_option maxRecDepth 20000 in
theorem gX0_requireFork_X0_requirePlace : GoodIn wsX0_requireFork (wsV RX0 84 RX0 yX0_requirePlace wsX0_requirePlace) := goodIn_app (goodIn_of _ (by decide +kernel)) ggX0_requireFork_X0_requirePlace
set_option maxRecDepth 20000 in
theorem ggX0_requireFork_X0_holdsExam : GoodIn wsX0_requireFork wsX0_holdsExam := goodIn_r _ [12, 13, 14, 15, 6, 16, 17, 18, 19, 20, 21, 22, 23, 24, 25, 26, 27, 28, 29, 30, 31, 32, 33, 34] (by decide +kernel) (by decide +kernel)
set_option maxRecDepth 20000 in
theorem gX0_requireFork_X0_holdsExam : GoodIn wsX0_requireFork (wsV RX0 135 RX0 yX0_holdsExam wsX0_holdsExam) := goodIn_app (goodIn_of _ (by decide +kernel)) ggX0_requireFork_X0_holdsExam
theorem dX0_requireFork_0 : decode cX0_requireFork 0 = .ok (.aload_n 0, 1) := by decide +kernel
theorem dX0_requireFork_1 : decode cX0_requireFork 1 = .ok (.iload_n 1, 1) := by decide +kernel
theorem dX0_requireFork_2 : decode cX0_requireFork 2 = .ok (.invokevirtual 84, 3) := by decide +kernel
theorem dX0_requireFork_5 : decode cX0_requireFork 5 = .ok (.aload_n 0, 1) := by decide +kernel
theorem dX0_requireFork_6 : decode cX0_requireFork 6 = .ok (.iload_n 1, 1) := by decide +kernel
theorem dX0_requireFork_7 : decode cX0_requireFork 7 = .ok (.invokevirtual 135, 3) := by decide +kernel
theorem dX0_requireFork_10 : decode cX0_requireFork 10 = .ok (.ifCond .eq 14, 3) := by decide +kernel
theorem dX0_requireFork_13 : decode cX0_requireFork 13 = .ok (.new 250, 3) := by decide +kernel
theorem dX0_requireFork_16 : decode cX0_requireFork 16 = .ok (.dup, 1) := by decide +kernel
theorem dX0_requireFork_17 : decode cX0_requireFork 17 = .ok (.ldc_w 257, 3) := by decide +kernel
theorem dX0_requireFork_20 : decode cX0_requireFork 20 = .ok (.invokespecial 254, 3) := by decide +kernel
theorem dX0_requireFork_23 : decode cX0_requireFork 23 = .ok (.athrow, 1) := by decide +kernel
theorem dX0_requireFork_24 : decode cX0_requireFork 24 = .ok (.return_, 1) := by decide +kernel
theorem dX0_requireWeight_0 : decode cX0_requireWeight 0 = .ok (.iload_n 0, 1) := by decide +kernel
theorem dX0_requireWeight_1 : decode cX0_requireWeight 1 = .ok (.iconst 1, 1) := by decide +kernel
theorem dX0_requireWeight_2 : decode cX0_requireWeight 2 = .ok (.if_icmp .lt 9, 3) := by decide +kernel
theorem dX0_requireWeight_5 : decode cX0_requireWeight 5 = .ok (.iload_n 0, 1) := by decide +kernel
theorem dX0_requireWeight_6 : decode cX0_requireWeight 6 = .ok (.bipush 9, 2) := by decide +kernel
theorem dX0_requireWeight_8 : decode cX0_requireWeight 8 = .ok (.if_icmp .le 14, 3) := by decide +kernel
theorem dX0_requireWeight_11 : decode cX0_requireWeight 11 = .ok (.new 50, 3) := by decide +kernel
theorem dX0_requireWeight_14 : decode cX0_requireWeight 14 = .ok (.dup, 1) := by decide +kernel
theorem dX0_requireWeight_15 : decode cX0_requireWeight 15 = .ok (.ldc_w 259, 3) := by decide +kernel
theorem dX0_requireWeight_18 : decode cX0_requireWeight 18 = .ok (.invokespecial 54, 3) := by decide +kernel
theorem dX0_requireWeight_21 : decode cX0_requireWeight 21 = .ok (.athrow, 1) := by decide +kernel
theorem dX0_requireWeight_22 : decode cX0_requireWeight 22 = .ok (.return_, 1) := by decide +kernel
theorem dX0_requireStudent_0 : decode cX0_requireStudent 0 = .ok (.iload_n 1, 1) := by decide +kernel
theorem dX0_requireStudent_1 : decode cX0_requireStudent 1 = .ok (.ifCond .lt 11, 3) := by decide +kernel
theorem dX0_requireStudent_4 : decode cX0_requireStudent 4 = .ok (.iload_n 1, 1) := by decide +kernel
theorem dX0_requireStudent_5 : decode cX0_requireStudent 5 = .ok (.aload_n 0, 1) := by decide +kernel
theorem dX0_requireStudent_6 : decode cX0_requireStudent 6 = .ok (.getfield 127, 3) := by decide +kernel
theorem dX0_requireStudent_9 : decode cX0_requireStudent 9 = .ok (.if_icmp .lt 14, 3) := by decide +kernel
theorem dX0_requireStudent_12 : decode cX0_requireStudent 12 = .ok (.new 250, 3) := by decide +kernel
theorem dX0_requireStudent_15 : decode cX0_requireStudent 15 = .ok (.dup, 1) := by decide +kernel
theorem dX0_requireStudent_16 : decode cX0_requireStudent 16 = .ok (.ldc_w 261, 3) := by decide +kernel
theorem dX0_requireStudent_19 : decode cX0_requireStudent 19 = .ok (.invokespecial 254, 3) := by decide +kernel
theorem dX0_requireStudent_22 : decode cX0_requireStudent 22 = .ok (.athrow, 1) := by decide +kernel
theorem dX0_requireStudent_23 : decode cX0_requireStudent 23 = .ok (.return_, 1) := by decide +kernel
set_option maxRecDepth 20000 in
theorem ggX0_requireGraded_X0_at : GoodIn wsX0_requireGraded wsX0_at := goodIn_r _ [7] (by decide +kernel) (by decide +kernel)
set_option maxRecDepth 20000 in
theorem gX0_requireGraded_X0_at : GoodIn wsX0_requireGraded (va_wsS RX0 100 yX0_at wsX0_at) := goodIn_app (goodIn_of _ (by decide +kernel)) ggX0_requireGraded_X0_at
set_option maxRecDepth 20000 in
theorem ggX0_requireGraded_X0_hasGrade : GoodIn wsX0_requireGraded wsX0_hasGrade := goodIn_r _ [11, 12, 4, 5, 6, 7, 13, 14, 15, 16, 17, 18, 19, 20, 21, 22, 23, 24, 25, 26, 27, 28, 29, 30] (by decide +kernel) (by decide +kernel)
set_option maxRecDepth 20000 in
theorem gX0_requireGraded_X0_hasGrade : GoodIn wsX0_requireGraded (wsV RX0 106 RX0 yX0_hasGrade wsX0_hasGrade) := goodIn_app (goodIn_of _ (by decide +kernel)) ggX0_requireGraded_X0_hasGrade
theorem dX0_requireGraded_0 : decode cX0_requireGraded 0 = .ok (.aload_n 0, 1) := by decide +kernel
theorem dX0_requireGraded_1 : decode cX0_requireGraded 1 = .ok (.aload_n 0, 1) := by decide +kernel
theorem dX0_requireGraded_2 : decode cX0_requireGraded 2 = .ok (.getfield 41, 3) := by decide +kernel
theorem dX0_requireGraded_5 : decode cX0_requireGraded 5 = .ok (.iload_n 1, 1) := by decide +kernel
theorem dX0_requireGraded_6 : decode cX0_requireGraded 6 = .ok (.invokestatic 100, 3) := by decide +kernel
theorem dX0_requireGraded_9 : decode cX0_requireGraded 9 = .ok (.invokevirtual 106, 3) := by decide +kernel
theorem dX0_requireGraded_12 : decode cX0_requireGraded 12 = .ok (.ifCond .ne 14, 3) := by decide +kernel
theorem dX0_requireGraded_15 : decode cX0_requireGraded 15 = .ok (.new 110, 3) := by decide +kernel
theorem dX0_requireGraded_18 : decode cX0_requireGraded 18 = .ok (.dup, 1) := by decide +kernel
theorem dX0_requireGraded_19 : decode cX0_requireGraded 19 = .ok (.ldc_w 263, 3) := by decide +kernel
theorem dX0_requireGraded_22 : decode cX0_requireGraded 22 = .ok (.invokespecial 114, 3) := by decide +kernel
theorem dX0_requireGraded_25 : decode cX0_requireGraded 25 = .ok (.athrow, 1) := by decide +kernel
theorem dX0_requireGraded_26 : decode cX0_requireGraded 26 = .ok (.return_, 1) := by decide +kernel
set_option maxRecDepth 20000 in
theorem ggX0_holdsExam_X0_bitOf : GoodIn wsX0_holdsExam wsX0_bitOf := goodIn_r _ [5] (by decide +kernel) (by decide +kernel)
set_option maxRecDepth 20000 in
theorem gX0_holdsExam_X0_bitOf : GoodIn wsX0_holdsExam (va_wsS RX0 68 yX0_bitOf wsX0_bitOf) := goodIn_app (goodIn_of _ (by decide +kernel)) ggX0_holdsExam_X0_bitOf
theorem dX0_holdsExam_0 : decode cX0_holdsExam 0 = .ok (.aload_n 0, 1) := by decide +kernel
theorem dX0_holdsExam_1 : decode cX0_holdsExam 1 = .ok (.getfield 64, 3) := by decide +kernel
theorem dX0_holdsExam_4 : decode cX0_holdsExam 4 = .ok (.iload_n 1, 1) := by decide +kernel
theorem dX0_holdsExam_5 : decode cX0_holdsExam 5 = .ok (.invokestatic 68, 3) := by decide +kernel
theorem dX0_holdsExam_8 : decode cX0_holdsExam 8 = .ok (.land, 1) := by decide +kernel
theorem dX0_holdsExam_9 : decode cX0_holdsExam 9 = .ok (.lconst 0, 1) := by decide +kernel
theorem dX0_holdsExam_10 : decode cX0_holdsExam 10 = .ok (.lcmp, 1) := by decide +kernel
theorem dX0_holdsExam_11 : decode cX0_holdsExam 11 = .ok (.ifCond .eq 7, 3) := by decide +kernel
theorem dX0_holdsExam_14 : decode cX0_holdsExam 14 = .ok (.iconst 1, 1) := by decide +kernel
theorem dX0_holdsExam_15 : decode cX0_holdsExam 15 = .ok (.goto 4, 3) := by decide +kernel
theorem dX0_holdsExam_18 : decode cX0_holdsExam 18 = .ok (.iconst 0, 1) := by decide +kernel
theorem dX0_holdsExam_19 : decode cX0_holdsExam 19 = .ok (.ireturn, 1) := by decide +kernel
set_option maxRecDepth 20000 in
theorem ggX0_hasGrade_X0_at : GoodIn wsX0_hasGrade wsX0_at := goodIn_r _ [5] (by decide +kernel) (by decide +kernel)
set_option maxRecDepth 20000 in
theorem gX0_hasGrade_X0_at : GoodIn wsX0_hasGrade (va_wsS RX0 100 yX0_at wsX0_at) := goodIn_app (goodIn_of _ (by decide +kernel)) ggX0_hasGrade_X0_at
theorem dX0_hasGrade_0 : decode cX0_hasGrade 0 = .ok (.aload_n 0, 1) := by decide +kernel
theorem dX0_hasGrade_1 : decode cX0_hasGrade 1 = .ok (.getfield 25, 3) := by decide +kernel
theorem dX0_hasGrade_4 : decode cX0_hasGrade 4 = .ok (.iload_n 1, 1) := by decide +kernel
theorem dX0_hasGrade_5 : decode cX0_hasGrade 5 = .ok (.invokestatic 100, 3) := by decide +kernel
theorem dX0_hasGrade_8 : decode cX0_hasGrade 8 = .ok (.iconst (-1), 1) := by decide +kernel
theorem dX0_hasGrade_9 : decode cX0_hasGrade 9 = .ok (.if_icmp .eq 7, 3) := by decide +kernel
theorem dX0_hasGrade_12 : decode cX0_hasGrade 12 = .ok (.iconst 1, 1) := by decide +kernel
theorem dX0_hasGrade_13 : decode cX0_hasGrade 13 = .ok (.goto 4, 3) := by decide +kernel
theorem dX0_hasGrade_16 : decode cX0_hasGrade 16 = .ok (.iconst 0, 1) := by decide +kernel
theorem dX0_hasGrade_17 : decode cX0_hasGrade 17 = .ok (.ireturn, 1) := by decide +kernel
set_option maxRecDepth 20000 in
theorem ggX0_settleExam_X0_hasGrade : GoodIn wsX0_settleExam wsX0_hasGrade := goodIn_r _ [11, 1, 12, 13, 10, 14, 18, 19, 20, 21, 22, 23, 24, 25, 26, 27, 28, 29, 30, 31, 32, 33, 34, 35] (by decide +kernel) (by decide +kernel)
set_option maxRecDepth 20000 in
theorem gX0_settleExam_X0_hasGrade : GoodIn wsX0_settleExam (wsV RX0 106 RX0 yX0_hasGrade wsX0_hasGrade) := goodIn_app (goodIn_of _ (by decide +kernel)) ggX0_settleExam_X0_hasGrade
set_option maxRecDepth 20000 in
theorem ggX0_settleExam_X0_at : GoodIn wsX0_settleExam wsX0_at := goodIn_r _ [14] (by decide +kernel) (by decide +kernel)
set_option maxRecDepth 20000 in
theorem gX0_settleExam_X0_at : GoodIn wsX0_settleExam (va_wsS RX0 100 yX0_at wsX0_at) := goodIn_app (goodIn_of _ (by decide +kernel)) ggX0_settleExam_X0_at
set_option maxRecDepth 20000 in
theorem ggX0_settleExam_X0_put : GoodIn wsX0_settleExam wsX0_put := goodIn_r _ [17] (by decide +kernel) (by decide +kernel)
set_option maxRecDepth 20000 in
theorem gX0_settleExam_X0_put : GoodIn wsX0_settleExam (va_wsS RX0 72 yX0_put wsX0_put) := goodIn_app (goodIn_of _ (by decide +kernel)) ggX0_settleExam_X0_put
theorem dX0_settleExam_0 : decode cX0_settleExam 0 = .ok (.aload_n 0, 1) := by decide +kernel
theorem dX0_settleExam_1 : decode cX0_settleExam 1 = .ok (.iload_n 1, 1) := by decide +kernel
theorem dX0_settleExam_2 : decode cX0_settleExam 2 = .ok (.invokevirtual 106, 3) := by decide +kernel
theorem dX0_settleExam_5 : decode cX0_settleExam 5 = .ok (.ifCond .ne 7, 3) := by decide +kernel
theorem dX0_settleExam_8 : decode cX0_settleExam 8 = .ok (.iconst 1, 1) := by decide +kernel
theorem dX0_settleExam_9 : decode cX0_settleExam 9 = .ok (.goto 4, 3) := by decide +kernel
theorem dX0_settleExam_12 : decode cX0_settleExam 12 = .ok (.iconst 0, 1) := by decide +kernel
theorem dX0_settleExam_13 : decode cX0_settleExam 13 = .ok (.istore_n 2, 1) := by decide +kernel
theorem dX0_settleExam_14 : decode cX0_settleExam 14 = .ok (.aload_n 0, 1) := by decide +kernel
theorem dX0_settleExam_15 : decode cX0_settleExam 15 = .ok (.getfield 25, 3) := by decide +kernel
theorem dX0_settleExam_18 : decode cX0_settleExam 18 = .ok (.iload_n 1, 1) := by decide +kernel
theorem dX0_settleExam_19 : decode cX0_settleExam 19 = .ok (.invokestatic 100, 3) := by decide +kernel
theorem dX0_settleExam_22 : decode cX0_settleExam 22 = .ok (.istore_n 3, 1) := by decide +kernel
theorem dX0_settleExam_23 : decode cX0_settleExam 23 = .ok (.aload_n 0, 1) := by decide +kernel
theorem dX0_settleExam_24 : decode cX0_settleExam 24 = .ok (.getfield 28, 3) := by decide +kernel
theorem dX0_settleExam_27 : decode cX0_settleExam 27 = .ok (.iload_n 1, 1) := by decide +kernel
theorem dX0_settleExam_28 : decode cX0_settleExam 28 = .ok (.iload_n 2, 1) := by decide +kernel
theorem dX0_settleExam_29 : decode cX0_settleExam 29 = .ok (.ifCond .eq 14, 3) := by decide +kernel
theorem dX0_settleExam_32 : decode cX0_settleExam 32 = .ok (.aload_n 0, 1) := by decide +kernel
theorem dX0_settleExam_33 : decode cX0_settleExam 33 = .ok (.getfield 9, 3) := by decide +kernel
theorem dX0_settleExam_36 : decode cX0_settleExam 36 = .ok (.iload_n 1, 1) := by decide +kernel
theorem dX0_settleExam_37 : decode cX0_settleExam 37 = .ok (.invokestatic 100, 3) := by decide +kernel
theorem dX0_settleExam_40 : decode cX0_settleExam 40 = .ok (.goto 4, 3) := by decide +kernel
theorem dX0_settleExam_43 : decode cX0_settleExam 43 = .ok (.iload_n 3, 1) := by decide +kernel
theorem dX0_settleExam_44 : decode cX0_settleExam 44 = .ok (.invokestatic 72, 3) := by decide +kernel
theorem dX0_settleExam_47 : decode cX0_settleExam 47 = .ok (.aload_n 0, 1) := by decide +kernel
theorem dX0_settleExam_48 : decode cX0_settleExam 48 = .ok (.getfield 31, 3) := by decide +kernel
theorem dX0_settleExam_51 : decode cX0_settleExam 51 = .ok (.iload_n 1, 1) := by decide +kernel
theorem dX0_settleExam_52 : decode cX0_settleExam 52 = .ok (.iload_n 2, 1) := by decide +kernel
theorem dX0_settleExam_53 : decode cX0_settleExam 53 = .ok (.ifCond .eq 14, 3) := by decide +kernel
theorem dX0_settleExam_56 : decode cX0_settleExam 56 = .ok (.aload_n 0, 1) := by decide +kernel
theorem dX0_settleExam_57 : decode cX0_settleExam 57 = .ok (.getfield 13, 3) := by decide +kernel
theorem dX0_settleExam_60 : decode cX0_settleExam 60 = .ok (.iload_n 1, 1) := by decide +kernel
theorem dX0_settleExam_61 : decode cX0_settleExam 61 = .ok (.invokestatic 100, 3) := by decide +kernel
theorem dX0_settleExam_64 : decode cX0_settleExam 64 = .ok (.goto 4, 3) := by decide +kernel
theorem dX0_settleExam_67 : decode cX0_settleExam 67 = .ok (.iload_n 3, 1) := by decide +kernel
theorem dX0_settleExam_68 : decode cX0_settleExam 68 = .ok (.invokestatic 72, 3) := by decide +kernel
theorem dX0_settleExam_71 : decode cX0_settleExam 71 = .ok (.aload_n 0, 1) := by decide +kernel
theorem dX0_settleExam_72 : decode cX0_settleExam 72 = .ok (.getfield 34, 3) := by decide +kernel
theorem dX0_settleExam_75 : decode cX0_settleExam 75 = .ok (.iload_n 1, 1) := by decide +kernel
theorem dX0_settleExam_76 : decode cX0_settleExam 76 = .ok (.iload_n 2, 1) := by decide +kernel
theorem dX0_settleExam_77 : decode cX0_settleExam 77 = .ok (.ifCond .eq 7, 3) := by decide +kernel
theorem dX0_settleExam_80 : decode cX0_settleExam 80 = .ok (.iconst 0, 1) := by decide +kernel
theorem dX0_settleExam_81 : decode cX0_settleExam 81 = .ok (.goto 4, 3) := by decide +kernel
theorem dX0_settleExam_84 : decode cX0_settleExam 84 = .ok (.iload_n 3, 1) := by decide +kernel
theorem dX0_settleExam_85 : decode cX0_settleExam 85 = .ok (.invokestatic 72, 3) := by decide +kernel
theorem dX0_settleExam_88 : decode cX0_settleExam 88 = .ok (.return_, 1) := by decide +kernel
set_option maxRecDepth 20000 in
theorem ggX0_settleFork_X0_settleGreater : GoodIn wsX0_settleFork wsX0_settleGreater := goodIn_r _ [8, 9, 10, 11, 12, 13, 14, 15, 16, 7, 17, 18, 19, 20, 21, 22, 23, 24, 25, 26, 27, 28, 29, 30, 31, 32, 33, 34, 35, 36, 37, 38] (by decide +kernel) (by decide +kernel)
set_option maxRecDepth 20000 in
theorem gX0_settleFork_X0_settleGreater : GoodIn wsX0_settleFork (wsV RX0 265 RX0 yX0_settleGreater wsX0_settleGreater) := goodIn_app (goodIn_of _ (by decide +kernel)) ggX0_settleFork_X0_settleGreater
theorem dX0_settleFork_0 : decode cX0_settleFork 0 = .ok (.aload_n 0, 1) := by decide +kernel
theorem dX0_settleFork_1 : decode cX0_settleFork 1 = .ok (.aload_n 0, 1) := by decide +kernel
theorem dX0_settleFork_2 : decode cX0_settleFork 2 = .ok (.getfield 28, 3) := by decide +kernel
theorem dX0_settleFork_5 : decode cX0_settleFork 5 = .ok (.iload_n 1, 1) := by decide +kernel
theorem dX0_settleFork_6 : decode cX0_settleFork 6 = .ok (.invokevirtual 265, 3) := by decide +kernel
theorem dX0_settleFork_9 : decode cX0_settleFork 9 = .ok (.aload_n 0, 1) := by decide +kernel
theorem dX0_settleFork_10 : decode cX0_settleFork 10 = .ok (.aload_n 0, 1) := by decide +kernel
theorem dX0_settleFork_11 : decode cX0_settleFork 11 = .ok (.getfield 31, 3) := by decide +kernel
theorem dX0_settleFork_14 : decode cX0_settleFork 14 = .ok (.iload_n 1, 1) := by decide +kernel
theorem dX0_settleFork_15 : decode cX0_settleFork 15 = .ok (.invokevirtual 265, 3) := by decide +kernel
theorem dX0_settleFork_18 : decode cX0_settleFork 18 = .ok (.aload_n 0, 1) := by decide +kernel
theorem dX0_settleFork_19 : decode cX0_settleFork 19 = .ok (.aload_n 0, 1) := by decide +kernel
theorem dX0_settleFork_20 : decode cX0_settleFork 20 = .ok (.getfield 34, 3) := by decide +kernel
theorem dX0_settleFork_23 : decode cX0_settleFork 23 = .ok (.iload_n 1, 1) := by decide +kernel
theorem dX0_settleFork_24 : decode cX0_settleFork 24 = .ok (.invokevirtual 265, 3) := by decide +kernel
theorem dX0_settleFork_27 : decode cX0_settleFork 27 = .ok (.return_, 1) := by decide +kernel
set_option maxRecDepth 20000 in
theorem ggX0_settleGreater_X0_at : GoodIn wsX0_settleGreater wsX0_at := goodIn_r _ [10] (by decide +kernel) (by decide +kernel)
set_option maxRecDepth 20000 in
theorem gX0_settleGreater_X0_at : GoodIn wsX0_settleGreater (va_wsS RX0 100 yX0_at wsX0_at) := goodIn_app (goodIn_of _ (by decide +kernel)) ggX0_settleGreater_X0_at
set_option maxRecDepth 20000 in
theorem ggX0_settleGreater_X0_put : GoodIn wsX0_settleGreater wsX0_put := goodIn_r _ [13] (by decide +kernel) (by decide +kernel)
set_option maxRecDepth 20000 in
theorem gX0_settleGreater_X0_put : GoodIn wsX0_settleGreater (va_wsS RX0 72 yX0_put wsX0_put) := goodIn_app (goodIn_of _ (by decide +kernel)) ggX0_settleGreater_X0_put
theorem dX0_settleGreater_0 : decode cX0_settleGreater 0 = .ok (.aload_n 1, 1) := by decide +kernel
theorem dX0_settleGreater_1 : decode cX0_settleGreater 1 = .ok (.iload_n 2, 1) := by decide +kernel
theorem dX0_settleGreater_2 : decode cX0_settleGreater 2 = .ok (.aload_n 1, 1) := by decide +kernel
theorem dX0_settleGreater_3 : decode cX0_settleGreater 3 = .ok (.aload_n 0, 1) := by decide +kernel
theorem dX0_settleGreater_4 : decode cX0_settleGreater 4 = .ok (.getfield 16, 3) := by decide +kernel
theorem dX0_settleGreater_7 : decode cX0_settleGreater 7 = .ok (.iload_n 2, 1) := by decide +kernel
theorem dX0_settleGreater_8 : decode cX0_settleGreater 8 = .ok (.invokestatic 100, 3) := by decide +kernel
theorem dX0_settleGreater_11 : decode cX0_settleGreater 11 = .ok (.invokestatic 100, 3) := by decide +kernel
theorem dX0_settleGreater_14 : decode cX0_settleGreater 14 = .ok (.aload_n 1, 1) := by decide +kernel
theorem dX0_settleGreater_15 : decode cX0_settleGreater 15 = .ok (.aload_n 0, 1) := by decide +kernel
theorem dX0_settleGreater_16 : decode cX0_settleGreater 16 = .ok (.getfield 19, 3) := by decide +kernel
theorem dX0_settleGreater_19 : decode cX0_settleGreater 19 = .ok (.iload_n 2, 1) := by decide +kernel
theorem dX0_settleGreater_20 : decode cX0_settleGreater 20 = .ok (.invokestatic 100, 3) := by decide +kernel
theorem dX0_settleGreater_23 : decode cX0_settleGreater 23 = .ok (.invokestatic 100, 3) := by decide +kernel
theorem dX0_settleGreater_26 : decode cX0_settleGreater 26 = .ok (.invokestatic 269, 3) := by decide +kernel
theorem dX0_settleGreater_29 : decode cX0_settleGreater 29 = .ok (.invokestatic 72, 3) := by decide +kernel
theorem dX0_settleGreater_32 : decode cX0_settleGreater 32 = .ok (.return_, 1) := by decide +kernel
set_option maxRecDepth 20000 in
theorem ggX0_settleForksAfter_X0_holdsExam : GoodIn wsX0_settleForksAfter wsX0_holdsExam := goodIn_r _ [6, 7, 8, 9, 5, 10, 34, 35, 36, 37, 38, 39, 40, 41, 42, 43, 44, 45, 46, 47, 48, 49, 50, 51] (by decide +kernel) (by decide +kernel)
set_option maxRecDepth 20000 in
theorem gX0_settleForksAfter_X0_holdsExam : GoodIn wsX0_settleForksAfter (wsV RX0 135 RX0 yX0_holdsExam wsX0_holdsExam) := goodIn_app (goodIn_of _ (by decide +kernel)) ggX0_settleForksAfter_X0_holdsExam
set_option maxRecDepth 20000 in
theorem ggX0_settleForksAfter_X0_settleFork : GoodIn wsX0_settleForksAfter wsX0_settleFork := goodIn_r _ [14, 15, 16, 17, 18, 19, 20, 5, 21, 22, 23, 24, 25, 26, 27, 28, 29, 30, 31, 32, 33, 34, 35, 36, 37, 38, 39, 40, 41, 42, 43, 44, 45, 46, 47, 48, 49, 50, 51] (by decide +kernel) (by decide +kernel)
set_option maxRecDepth 20000 in
theorem gX0_settleForksAfter_X0_settleFork : GoodIn wsX0_settleForksAfter (wsV RX0 94 RX0 yX0_settleFork wsX0_settleFork) := goodIn_app (goodIn_of _ (by decide +kernel)) ggX0_settleForksAfter_X0_settleFork
theorem dX0_settleForksAfter_0 : decode cX0_settleForksAfter 0 = .ok (.iload_n 1, 1) := by decide +kernel
theorem dX0_settleForksAfter_1 : decode cX0_settleForksAfter 1 = .ok (.iconst 1, 1) := by decide +kernel
theorem dX0_settleForksAfter_2 : decode cX0_settleForksAfter 2 = .ok (.iadd, 1) := by decide +kernel
theorem dX0_settleForksAfter_3 : decode cX0_settleForksAfter 3 = .ok (.istore_n 2, 1) := by decide +kernel
theorem dX0_settleForksAfter_4 : decode cX0_settleForksAfter 4 = .ok (.iload_n 2, 1) := by decide +kernel
theorem dX0_settleForksAfter_5 : decode cX0_settleForksAfter 5 = .ok (.aload_n 0, 1) := by decide +kernel
theorem dX0_settleForksAfter_6 : decode cX0_settleForksAfter 6 = .ok (.getfield 60, 3) := by decide +kernel
theorem dX0_settleForksAfter_9 : decode cX0_settleForksAfter 9 = .ok (.if_icmp .ge 22, 3) := by decide +kernel
theorem dX0_settleForksAfter_12 : decode cX0_settleForksAfter 12 = .ok (.aload_n 0, 1) := by decide +kernel
theorem dX0_settleForksAfter_13 : decode cX0_settleForksAfter 13 = .ok (.iload_n 2, 1) := by decide +kernel
theorem dX0_settleForksAfter_14 : decode cX0_settleForksAfter 14 = .ok (.invokevirtual 135, 3) := by decide +kernel
theorem dX0_settleForksAfter_17 : decode cX0_settleForksAfter 17 = .ok (.ifCond .ne 8, 3) := by decide +kernel
theorem dX0_settleForksAfter_20 : decode cX0_settleForksAfter 20 = .ok (.aload_n 0, 1) := by decide +kernel
theorem dX0_settleForksAfter_21 : decode cX0_settleForksAfter 21 = .ok (.iload_n 2, 1) := by decide +kernel
theorem dX0_settleForksAfter_22 : decode cX0_settleForksAfter 22 = .ok (.invokevirtual 94, 3) := by decide +kernel
theorem dX0_settleForksAfter_25 : decode cX0_settleForksAfter 25 = .ok (.iinc 2 1, 3) := by decide +kernel
theorem dX0_settleForksAfter_28 : decode cX0_settleForksAfter 28 = .ok (.goto (-24), 3) := by decide +kernel
theorem dX0_settleForksAfter_31 : decode cX0_settleForksAfter 31 = .ok (.return_, 1) := by decide +kernel
set_option maxRecDepth 20000 in
theorem ggX0_pathFrom_X0_at : GoodIn wsX0_pathFrom wsX0_at := goodIn_r _ [6] (by decide +kernel) (by decide +kernel)
set_option maxRecDepth 20000 in
theorem gX0_pathFrom_X0_at : GoodIn wsX0_pathFrom (va_wsS RX0 100 yX0_at wsX0_at) := goodIn_app (goodIn_of _ (by decide +kernel)) ggX0_pathFrom_X0_at
theorem dX0_pathFrom_0 : decode cX0_pathFrom 0 = .ok (.iload_n 2, 1) := by decide +kernel
theorem dX0_pathFrom_1 : decode cX0_pathFrom 1 = .ok (.ifCond .eq 14, 3) := by decide +kernel
theorem dX0_pathFrom_4 : decode cX0_pathFrom 4 = .ok (.aload_n 0, 1) := by decide +kernel
theorem dX0_pathFrom_5 : decode cX0_pathFrom 5 = .ok (.getfield 19, 3) := by decide +kernel
theorem dX0_pathFrom_8 : decode cX0_pathFrom 8 = .ok (.iload_n 1, 1) := by decide +kernel
theorem dX0_pathFrom_9 : decode cX0_pathFrom 9 = .ok (.invokestatic 100, 3) := by decide +kernel
theorem dX0_pathFrom_12 : decode cX0_pathFrom 12 = .ok (.goto 11, 3) := by decide +kernel
theorem dX0_pathFrom_15 : decode cX0_pathFrom 15 = .ok (.aload_n 0, 1) := by decide +kernel
theorem dX0_pathFrom_16 : decode cX0_pathFrom 16 = .ok (.getfield 16, 3) := by decide +kernel
theorem dX0_pathFrom_19 : decode cX0_pathFrom 19 = .ok (.iload_n 1, 1) := by decide +kernel
theorem dX0_pathFrom_20 : decode cX0_pathFrom 20 = .ok (.invokestatic 100, 3) := by decide +kernel
theorem dX0_pathFrom_23 : decode cX0_pathFrom 23 = .ok (.ireturn, 1) := by decide +kernel
set_option maxRecDepth 20000 in
theorem ggX0_riskOfPath_X0_pathFrom : GoodIn wsX0_riskOfPath wsX0_pathFrom := goodIn_r _ [12, 13, 14, 15, 16, 11, 17, 18, 19, 20, 21, 22, 23, 24, 25, 26, 27, 28, 29, 30, 31, 32, 33, 34, 35] (by decide +kernel) (by decide +kernel)
set_option maxRecDepth 20000 in
theorem gX0_riskOfPath_X0_pathFrom : GoodIn wsX0_riskOfPath (wsV RX0 163 RX0 yX0_pathFrom wsX0_pathFrom) := goodIn_app (goodIn_of _ (by decide +kernel)) ggX0_riskOfPath_X0_pathFrom
set_option maxRecDepth 20000 in
theorem ggX0_riskOfPath_X0_at : GoodIn wsX0_riskOfPath wsX0_at := goodIn_r _ [17] (by decide +kernel) (by decide +kernel)
set_option maxRecDepth 20000 in
theorem gX0_riskOfPath_X0_at : GoodIn wsX0_riskOfPath (va_wsS RX0 100 yX0_at wsX0_at) := goodIn_app (goodIn_of _ (by decide +kernel)) ggX0_riskOfPath_X0_at
theorem dX0_riskOfPath_0 : decode cX0_riskOfPath 0 = .ok (.aload_n 0, 1) := by decide +kernel
theorem dX0_riskOfPath_1 : decode cX0_riskOfPath 1 = .ok (.getfield 28, 3) := by decide +kernel
theorem dX0_riskOfPath_4 : decode cX0_riskOfPath 4 = .ok (.aload_n 0, 1) := by decide +kernel
theorem dX0_riskOfPath_5 : decode cX0_riskOfPath 5 = .ok (.iload_n 1, 1) := by decide +kernel
theorem dX0_riskOfPath_6 : decode cX0_riskOfPath 6 = .ok (.iload_n 2, 1) := by decide +kernel
theorem dX0_riskOfPath_7 : decode cX0_riskOfPath 7 = .ok (.invokevirtual 163, 3) := by decide +kernel
theorem dX0_riskOfPath_10 : decode cX0_riskOfPath 10 = .ok (.invokestatic 100, 3) := by decide +kernel
theorem dX0_riskOfPath_13 : decode cX0_riskOfPath 13 = .ok (.istore_n 3, 1) := by decide +kernel
theorem dX0_riskOfPath_14 : decode cX0_riskOfPath 14 = .ok (.aload_n 0, 1) := by decide +kernel
theorem dX0_riskOfPath_15 : decode cX0_riskOfPath 15 = .ok (.getfield 31, 3) := by decide +kernel
theorem dX0_riskOfPath_18 : decode cX0_riskOfPath 18 = .ok (.aload_n 0, 1) := by decide +kernel
theorem dX0_riskOfPath_19 : decode cX0_riskOfPath 19 = .ok (.iload_n 1, 1) := by decide +kernel
theorem dX0_riskOfPath_20 : decode cX0_riskOfPath 20 = .ok (.iload_n 2, 1) := by decide +kernel
theorem dX0_riskOfPath_21 : decode cX0_riskOfPath 21 = .ok (.ifCond .ne 7, 3) := by decide +kernel
theorem dX0_riskOfPath_24 : decode cX0_riskOfPath 24 = .ok (.iconst 1, 1) := by decide +kernel
theorem dX0_riskOfPath_25 : decode cX0_riskOfPath 25 = .ok (.goto 4, 3) := by decide +kernel
theorem dX0_riskOfPath_28 : decode cX0_riskOfPath 28 = .ok (.iconst 0, 1) := by decide +kernel
theorem dX0_riskOfPath_29 : decode cX0_riskOfPath 29 = .ok (.invokevirtual 163, 3) := by decide +kernel
theorem dX0_riskOfPath_32 : decode cX0_riskOfPath 32 = .ok (.invokestatic 100, 3) := by decide +kernel
theorem dX0_riskOfPath_35 : decode cX0_riskOfPath 35 = .ok (.istore 4, 2) := by decide +kernel
theorem dX0_riskOfPath_37 : decode cX0_riskOfPath 37 = .ok (.iconst 0, 1) := by decide +kernel
theorem dX0_riskOfPath_38 : decode cX0_riskOfPath 38 = .ok (.iload 4, 2) := by decide +kernel
theorem dX0_riskOfPath_40 : decode cX0_riskOfPath 40 = .ok (.iload_n 3, 1) := by decide +kernel
theorem dX0_riskOfPath_41 : decode cX0_riskOfPath 41 = .ok (.isub, 1) := by decide +kernel
theorem dX0_riskOfPath_42 : decode cX0_riskOfPath 42 = .ok (.invokestatic 269, 3) := by decide +kernel
theorem dX0_riskOfPath_45 : decode cX0_riskOfPath 45 = .ok (.aload_n 0, 1) := by decide +kernel
theorem dX0_riskOfPath_46 : decode cX0_riskOfPath 46 = .ok (.getfield 22, 3) := by decide +kernel
theorem dX0_riskOfPath_49 : decode cX0_riskOfPath 49 = .ok (.iload_n 1, 1) := by decide +kernel
theorem dX0_riskOfPath_50 : decode cX0_riskOfPath 50 = .ok (.invokestatic 100, 3) := by decide +kernel
theorem dX0_riskOfPath_53 : decode cX0_riskOfPath 53 = .ok (.imul, 1) := by decide +kernel
theorem dX0_riskOfPath_54 : decode cX0_riskOfPath 54 = .ok (.ireturn, 1) := by decide +kernel
set_option maxRecDepth 20000 in
theorem ggX0_plansRight_X0_riskOfPath : GoodIn wsX0_plansRight wsX0_riskOfPath := goodIn_r _ [5, 6, 7, 8, 9, 10, 11, 12, 13, 14, 15, 4, 16, 17, 18, 19, 20, 21, 22, 23, 24, 25, 26, 27, 28, 29, 30, 31, 32, 33, 34, 35, 36, 37, 38, 39] (by decide +kernel) (by decide +kernel)
set_option maxRecDepth 20000 in
theorem gX0_plansRight_X0_riskOfPath : GoodIn wsX0_plansRight (wsV RX0 159 RX0 yX0_riskOfPath wsX0_riskOfPath) := goodIn_app (goodIn_of _ (by decide +kernel)) ggX0_plansRight_X0_riskOfPath
theorem dX0_plansRight_0 : decode cX0_plansRight 0 = .ok (.aload_n 0, 1) := by decide +kernel
theorem dX0_plansRight_1 : decode cX0_plansRight 1 = .ok (.iload_n 1, 1) := by decide +kernel
theorem dX0_plansRight_2 : decode cX0_plansRight 2 = .ok (.iconst 1, 1) := by decide +kernel
theorem dX0_plansRight_3 : decode cX0_plansRight 3 = .ok (.invokevirtual 159, 3) := by decide +kernel
theorem dX0_plansRight_6 : decode cX0_plansRight 6 = .ok (.aload_n 0, 1) := by decide +kernel
theorem dX0_plansRight_7 : decode cX0_plansRight 7 = .ok (.iload_n 1, 1) := by decide +kernel
theorem dX0_plansRight_8 : decode cX0_plansRight 8 = .ok (.iconst 0, 1) := by decide +kernel
theorem dX0_plansRight_9 : decode cX0_plansRight 9 = .ok (.invokevirtual 159, 3) := by decide +kernel
theorem dX0_plansRight_12 : decode cX0_plansRight 12 = .ok (.if_icmp .ge 7, 3) := by decide +kernel
theorem dX0_plansRight_15 : decode cX0_plansRight 15 = .ok (.iconst 1, 1) := by decide +kernel
theorem dX0_plansRight_16 : decode cX0_plansRight 16 = .ok (.goto 4, 3) := by decide +kernel
theorem dX0_plansRight_19 : decode cX0_plansRight 19 = .ok (.iconst 0, 1) := by decide +kernel
theorem dX0_plansRight_20 : decode cX0_plansRight 20 = .ok (.ireturn, 1) := by decide +kernel
set_option maxRecDepth 20000 in
theorem ggX0_smallerRisk_X0_riskOfPath : GoodIn wsX0_smallerRisk wsX0_riskOfPath := goodIn_r _ [9, 10, 11, 12, 13, 3, 14, 15, 16, 17, 18, 8, 19, 20, 21, 22, 23, 24, 25, 26, 27, 28, 29, 30, 31, 32, 33, 34, 35, 36, 37, 38, 39, 40, 41, 42] (by decide +kernel) (by decide +kernel)
set_option maxRecDepth 20000 in
theorem gX0_smallerRisk_X0_riskOfPath : GoodIn wsX0_smallerRisk (wsV RX0 159 RX0 yX0_riskOfPath wsX0_riskOfPath) := goodIn_app (goodIn_of _ (by decide +kernel)) ggX0_smallerRisk_X0_riskOfPath
theorem dX0_smallerRisk_0 : decode cX0_smallerRisk 0 = .ok (.aload_n 0, 1) := by decide +kernel
theorem dX0_smallerRisk_1 : decode cX0_smallerRisk 1 = .ok (.iload_n 1, 1) := by decide +kernel
theorem dX0_smallerRisk_2 : decode cX0_smallerRisk 2 = .ok (.iconst 0, 1) := by decide +kernel
theorem dX0_smallerRisk_3 : decode cX0_smallerRisk 3 = .ok (.invokevirtual 159, 3) := by decide +kernel
theorem dX0_smallerRisk_6 : decode cX0_smallerRisk 6 = .ok (.aload_n 0, 1) := by decide +kernel
theorem dX0_smallerRisk_7 : decode cX0_smallerRisk 7 = .ok (.iload_n 1, 1) := by decide +kernel
theorem dX0_smallerRisk_8 : decode cX0_smallerRisk 8 = .ok (.iconst 1, 1) := by decide +kernel
theorem dX0_smallerRisk_9 : decode cX0_smallerRisk 9 = .ok (.invokevirtual 159, 3) := by decide +kernel
theorem dX0_smallerRisk_12 : decode cX0_smallerRisk 12 = .ok (.invokestatic 274, 3) := by decide +kernel
theorem dX0_smallerRisk_15 : decode cX0_smallerRisk 15 = .ok (.ireturn, 1) := by decide +kernel
set_option maxRecDepth 20000 in
theorem ggX0_walk_X0_at : GoodIn wsX0_walk wsX0_at := goodIn_r _ [7] (by decide +kernel) (by decide +kernel)
set_option maxRecDepth 20000 in
theorem gX0_walk_X0_at : GoodIn wsX0_walk (va_wsS RX0 100 yX0_at wsX0_at) := goodIn_app (goodIn_of _ (by decide +kernel)) ggX0_walk_X0_at
set_option maxRecDepth 20000 in
theorem ggX0_walk_X0_put : GoodIn wsX0_walk wsX0_put := goodIn_r _ [10] (by decide +kernel) (by decide +kernel)
set_option maxRecDepth 20000 in
theorem gX0_walk_X0_put : GoodIn wsX0_walk (va_wsS RX0 72 yX0_put wsX0_put) := goodIn_app (goodIn_of _ (by decide +kernel)) ggX0_walk_X0_put
set_option maxRecDepth 20000 in
theorem ggX0_walk_X0_pathFrom : GoodIn wsX0_walk wsX0_pathFrom := goodIn_r _ [14, 15, 16, 4, 5, 6, 7, 17, 18, 19, 20, 21, 22, 23, 24, 25, 26, 27, 28, 29, 30, 31, 32, 33, 34] (by decide +kernel) (by decide +kernel)
set_option maxRecDepth 20000 in
theorem gX0_walk_X0_pathFrom : GoodIn wsX0_walk (wsV RX0 163 RX0 yX0_pathFrom wsX0_pathFrom) := goodIn_app (goodIn_of _ (by decide +kernel)) ggX0_walk_X0_pathFrom
theorem dX0_walk_0 : decode cX0_walk 0 = .ok (.aload_n 0, 1) := by decide +kernel
theorem dX0_walk_1 : decode cX0_walk 1 = .ok (.getfield 41, 3) := by decide +kernel
theorem dX0_walk_4 : decode cX0_walk 4 = .ok (.iload_n 1, 1) := by decide +kernel
theorem dX0_walk_5 : decode cX0_walk 5 = .ok (.invokestatic 100, 3) := by decide +kernel
theorem dX0_walk_8 : decode cX0_walk 8 = .ok (.istore_n 3, 1) := by decide +kernel
theorem dX0_walk_9 : decode cX0_walk 9 = .ok (.aload_n 0, 1) := by decide +kernel
theorem dX0_walk_10 : decode cX0_walk 10 = .ok (.getfield 44, 3) := by decide +kernel
theorem dX0_walk_13 : decode cX0_walk 13 = .ok (.iload_n 1, 1) := by decide +kernel
theorem dX0_walk_14 : decode cX0_walk 14 = .ok (.invokestatic 100, 3) := by decide +kernel
theorem dX0_walk_17 : decode cX0_walk 17 = .ok (.istore 4, 2) := by decide +kernel
theorem dX0_walk_19 : decode cX0_walk 19 = .ok (.aload_n 0, 1) := by decide +kernel
theorem dX0_walk_20 : decode cX0_walk 20 = .ok (.getfield 47, 3) := by decide +kernel
theorem dX0_walk_23 : decode cX0_walk 23 = .ok (.iload_n 1, 1) := by decide +kernel
theorem dX0_walk_24 : decode cX0_walk 24 = .ok (.bipush 40, 2) := by decide +kernel
theorem dX0_walk_26 : decode cX0_walk 26 = .ok (.imul, 1) := by decide +kernel
theorem dX0_walk_27 : decode cX0_walk 27 = .ok (.iload 4, 2) := by decide +kernel
theorem dX0_walk_29 : decode cX0_walk 29 = .ok (.iadd, 1) := by decide +kernel
theorem dX0_walk_30 : decode cX0_walk 30 = .ok (.iload_n 3, 1) := by decide +kernel
theorem dX0_walk_31 : decode cX0_walk 31 = .ok (.invokestatic 72, 3) := by decide +kernel
theorem dX0_walk_34 : decode cX0_walk 34 = .ok (.aload_n 0, 1) := by decide +kernel
theorem dX0_walk_35 : decode cX0_walk 35 = .ok (.getfield 44, 3) := by decide +kernel
theorem dX0_walk_38 : decode cX0_walk 38 = .ok (.iload_n 1, 1) := by decide +kernel
theorem dX0_walk_39 : decode cX0_walk 39 = .ok (.iload 4, 2) := by decide +kernel
theorem dX0_walk_41 : decode cX0_walk 41 = .ok (.iconst 1, 1) := by decide +kernel
theorem dX0_walk_42 : decode cX0_walk 42 = .ok (.iadd, 1) := by decide +kernel
theorem dX0_walk_43 : decode cX0_walk 43 = .ok (.invokestatic 72, 3) := by decide +kernel
theorem dX0_walk_46 : decode cX0_walk 46 = .ok (.aload_n 0, 1) := by decide +kernel
theorem dX0_walk_47 : decode cX0_walk 47 = .ok (.getfield 41, 3) := by decide +kernel
theorem dX0_walk_50 : decode cX0_walk 50 = .ok (.iload_n 1, 1) := by decide +kernel
theorem dX0_walk_51 : decode cX0_walk 51 = .ok (.aload_n 0, 1) := by decide +kernel
theorem dX0_walk_52 : decode cX0_walk 52 = .ok (.iload_n 3, 1) := by decide +kernel
theorem dX0_walk_53 : decode cX0_walk 53 = .ok (.iload_n 2, 1) := by decide +kernel
theorem dX0_walk_54 : decode cX0_walk 54 = .ok (.invokevirtual 163, 3) := by decide +kernel
theorem dX0_walk_57 : decode cX0_walk 57 = .ok (.invokestatic 72, 3) := by decide +kernel
theorem dX0_walk_60 : decode cX0_walk 60 = .ok (.return_, 1) := by decide +kernel
set_option maxRecDepth 20000 in
theorem ggX0_passedFork_X0_at : GoodIn wsX0_passedFork wsX0_at := goodIn_r _ [5] (by decide +kernel) (by decide +kernel)
set_option maxRecDepth 20000 in
theorem gX0_passedFork_X0_at : GoodIn wsX0_passedFork (va_wsS RX0 100 yX0_at wsX0_at) := goodIn_app (goodIn_of _ (by decide +kernel)) ggX0_passedFork_X0_at
theorem dX0_passedFork_0 : decode cX0_passedFork 0 = .ok (.aload_n 0, 1) := by decide +kernel
theorem dX0_passedFork_1 : decode cX0_passedFork 1 = .ok (.getfield 47, 3) := by decide +kernel
theorem dX0_passedFork_4 : decode cX0_passedFork 4 = .ok (.iload_n 1, 1) := by decide +kernel
theorem dX0_passedFork_5 : decode cX0_passedFork 5 = .ok (.bipush 40, 2) := by decide +kernel
theorem dX0_passedFork_7 : decode cX0_passedFork 7 = .ok (.imul, 1) := by decide +kernel
theorem dX0_passedFork_8 : decode cX0_passedFork 8 = .ok (.iload_n 2, 1) := by decide +kernel
theorem dX0_passedFork_9 : decode cX0_passedFork 9 = .ok (.iadd, 1) := by decide +kernel
theorem dX0_passedFork_10 : decode cX0_passedFork 10 = .ok (.invokestatic 100, 3) := by decide +kernel
theorem dX0_passedFork_13 : decode cX0_passedFork 13 = .ok (.ireturn, 1) := by decide +kernel
set_option maxRecDepth 20000 in
theorem ggX0_regretOfStep_X0_passedFork : GoodIn wsX0_regretOfStep wsX0_passedFork := goodIn_r _ [13, 14, 15, 16, 12, 17, 18, 19, 20, 21, 22, 23, 24, 25, 26, 27, 28, 29, 30, 31, 32, 33, 34, 35] (by decide +kernel) (by decide +kernel)
set_option maxRecDepth 20000 in
theorem gX0_regretOfStep_X0_passedFork : GoodIn wsX0_regretOfStep (wsV RX0 146 RX0 yX0_passedFork wsX0_passedFork) := goodIn_app (goodIn_of _ (by decide +kernel)) ggX0_regretOfStep_X0_passedFork
set_option maxRecDepth 20000 in
theorem ggX0_regretOfStep_X0_at : GoodIn wsX0_regretOfStep wsX0_at := goodIn_r _ [17] (by decide +kernel) (by decide +kernel)
set_option maxRecDepth 20000 in
theorem gX0_regretOfStep_X0_at : GoodIn wsX0_regretOfStep (va_wsS RX0 100 yX0_at wsX0_at) := goodIn_app (goodIn_of _ (by decide +kernel)) ggX0_regretOfStep_X0_at
theorem dX0_regretOfStep_0 : decode cX0_regretOfStep 0 = .ok (.aload_n 0, 1) := by decide +kernel
theorem dX0_regretOfStep_1 : decode cX0_regretOfStep 1 = .ok (.iload_n 1, 1) := by decide +kernel
theorem dX0_regretOfStep_2 : decode cX0_regretOfStep 2 = .ok (.iload_n 2, 1) := by decide +kernel
theorem dX0_regretOfStep_3 : decode cX0_regretOfStep 3 = .ok (.invokevirtual 146, 3) := by decide +kernel
theorem dX0_regretOfStep_6 : decode cX0_regretOfStep 6 = .ok (.istore_n 3, 1) := by decide +kernel
theorem dX0_regretOfStep_7 : decode cX0_regretOfStep 7 = .ok (.aload_n 0, 1) := by decide +kernel
theorem dX0_regretOfStep_8 : decode cX0_regretOfStep 8 = .ok (.getfield 25, 3) := by decide +kernel
theorem dX0_regretOfStep_11 : decode cX0_regretOfStep 11 = .ok (.aload_n 0, 1) := by decide +kernel
theorem dX0_regretOfStep_12 : decode cX0_regretOfStep 12 = .ok (.getfield 41, 3) := by decide +kernel
theorem dX0_regretOfStep_15 : decode cX0_regretOfStep 15 = .ok (.iload_n 1, 1) := by decide +kernel
theorem dX0_regretOfStep_16 : decode cX0_regretOfStep 16 = .ok (.invokestatic 100, 3) := by decide +kernel
theorem dX0_regretOfStep_19 : decode cX0_regretOfStep 19 = .ok (.invokestatic 100, 3) := by decide +kernel
theorem dX0_regretOfStep_22 : decode cX0_regretOfStep 22 = .ok (.istore 4, 2) := by decide +kernel
theorem dX0_regretOfStep_24 : decode cX0_regretOfStep 24 = .ok (.iconst 0, 1) := by decide +kernel
theorem dX0_regretOfStep_25 : decode cX0_regretOfStep 25 = .ok (.aload_n 0, 1) := by decide +kernel
theorem dX0_regretOfStep_26 : decode cX0_regretOfStep 26 = .ok (.getfield 34, 3) := by decide +kernel
theorem dX0_regretOfStep_29 : decode cX0_regretOfStep 29 = .ok (.iload_n 3, 1) := by decide +kernel
theorem dX0_regretOfStep_30 : decode cX0_regretOfStep 30 = .ok (.invokestatic 100, 3) := by decide +kernel
theorem dX0_regretOfStep_33 : decode cX0_regretOfStep 33 = .ok (.iload 4, 2) := by decide +kernel
theorem dX0_regretOfStep_35 : decode cX0_regretOfStep 35 = .ok (.isub, 1) := by decide +kernel
theorem dX0_regretOfStep_36 : decode cX0_regretOfStep 36 = .ok (.invokestatic 269, 3) := by decide +kernel
theorem dX0_regretOfStep_39 : decode cX0_regretOfStep 39 = .ok (.aload_n 0, 1) := by decide +kernel
theorem dX0_regretOfStep_40 : decode cX0_regretOfStep 40 = .ok (.getfield 22, 3) := by decide +kernel
theorem dX0_regretOfStep_43 : decode cX0_regretOfStep 43 = .ok (.iload_n 3, 1) := by decide +kernel
theorem dX0_regretOfStep_44 : decode cX0_regretOfStep 44 = .ok (.invokestatic 100, 3) := by decide +kernel
theorem dX0_regretOfStep_47 : decode cX0_regretOfStep 47 = .ok (.imul, 1) := by decide +kernel
theorem dX0_regretOfStep_48 : decode cX0_regretOfStep 48 = .ok (.ireturn, 1) := by decide +kernel
set_option maxRecDepth 20000 in
theorem ggX0_regretOfAll_X0_at : GoodIn wsX0_regretOfAll wsX0_at := goodIn_r _ [5] (by decide +kernel) (by decide +kernel)
set_option maxRecDepth 20000 in
theorem gX0_regretOfAll_X0_at : GoodIn wsX0_regretOfAll (va_wsS RX0 100 yX0_at wsX0_at) := goodIn_app (goodIn_of _ (by decide +kernel)) ggX0_regretOfAll_X0_at
set_option maxRecDepth 20000 in
theorem ggX0_regretOfAll_X0_regretOfStep : GoodIn wsX0_regretOfAll wsX0_regretOfStep := goodIn_r _ [9, 10, 11, 12, 13, 14, 15, 16, 17, 18, 19, 20, 4, 21, 22, 2, 3, 5, 23, 24, 25, 26, 27, 28, 29, 30, 31, 32, 33, 34, 35, 36, 37, 38, 39, 40] (by decide +kernel) (by decide +kernel)
set_option maxRecDepth 20000 in
theorem gX0_regretOfAll_X0_regretOfStep : GoodIn wsX0_regretOfAll (wsV RX0 176 RX0 yX0_regretOfStep wsX0_regretOfStep) := goodIn_app (goodIn_of _ (by decide +kernel)) ggX0_regretOfAll_X0_regretOfStep
theorem dX0_regretOfAll_0 : decode cX0_regretOfAll 0 = .ok (.iconst 0, 1) := by decide +kernel
theorem dX0_regretOfAll_1 : decode cX0_regretOfAll 1 = .ok (.istore_n 2, 1) := by decide +kernel
theorem dX0_regretOfAll_2 : decode cX0_regretOfAll 2 = .ok (.aload_n 0, 1) := by decide +kernel
theorem dX0_regretOfAll_3 : decode cX0_regretOfAll 3 = .ok (.getfield 44, 3) := by decide +kernel
theorem dX0_regretOfAll_6 : decode cX0_regretOfAll 6 = .ok (.iload_n 1, 1) := by decide +kernel
theorem dX0_regretOfAll_7 : decode cX0_regretOfAll 7 = .ok (.invokestatic 100, 3) := by decide +kernel
theorem dX0_regretOfAll_10 : decode cX0_regretOfAll 10 = .ok (.istore_n 3, 1) := by decide +kernel
theorem dX0_regretOfAll_11 : decode cX0_regretOfAll 11 = .ok (.iconst 0, 1) := by decide +kernel
theorem dX0_regretOfAll_12 : decode cX0_regretOfAll 12 = .ok (.istore 4, 2) := by decide +kernel
theorem dX0_regretOfAll_14 : decode cX0_regretOfAll 14 = .ok (.iload 4, 2) := by decide +kernel
theorem dX0_regretOfAll_16 : decode cX0_regretOfAll 16 = .ok (.iload_n 3, 1) := by decide +kernel
theorem dX0_regretOfAll_17 : decode cX0_regretOfAll 17 = .ok (.if_icmp .ge 19, 3) := by decide +kernel
theorem dX0_regretOfAll_20 : decode cX0_regretOfAll 20 = .ok (.iload_n 2, 1) := by decide +kernel
theorem dX0_regretOfAll_21 : decode cX0_regretOfAll 21 = .ok (.aload_n 0, 1) := by decide +kernel
theorem dX0_regretOfAll_22 : decode cX0_regretOfAll 22 = .ok (.iload_n 1, 1) := by decide +kernel
theorem dX0_regretOfAll_23 : decode cX0_regretOfAll 23 = .ok (.iload 4, 2) := by decide +kernel
theorem dX0_regretOfAll_25 : decode cX0_regretOfAll 25 = .ok (.invokevirtual 176, 3) := by decide +kernel
theorem dX0_regretOfAll_28 : decode cX0_regretOfAll 28 = .ok (.iadd, 1) := by decide +kernel
theorem dX0_regretOfAll_29 : decode cX0_regretOfAll 29 = .ok (.istore_n 2, 1) := by decide +kernel
theorem dX0_regretOfAll_30 : decode cX0_regretOfAll 30 = .ok (.iinc 4 1, 3) := by decide +kernel
theorem dX0_regretOfAll_33 : decode cX0_regretOfAll 33 = .ok (.goto (-19), 3) := by decide +kernel
theorem dX0_regretOfAll_36 : decode cX0_regretOfAll 36 = .ok (.iload_n 2, 1) := by decide +kernel
theorem dX0_regretOfAll_37 : decode cX0_regretOfAll 37 = .ok (.ireturn, 1) := by decide +kernel
theorem dX0_at_0 : decode cX0_at 0 = .ok (.iload_n 1, 1) := by decide +kernel
theorem dX0_at_1 : decode cX0_at 1 = .ok (.ifCond .lt 15, 3) := by decide +kernel
theorem dX0_at_4 : decode cX0_at 4 = .ok (.iload_n 1, 1) := by decide +kernel
theorem dX0_at_5 : decode cX0_at 5 = .ok (.aload_n 0, 1) := by decide +kernel
theorem dX0_at_6 : decode cX0_at 6 = .ok (.arraylength, 1) := by decide +kernel
theorem dX0_at_7 : decode cX0_at 7 = .ok (.if_icmp .ge 9, 3) := by decide +kernel
theorem dX0_at_10 : decode cX0_at 10 = .ok (.aload_n 0, 1) := by decide +kernel
theorem dX0_at_11 : decode cX0_at 11 = .ok (.iload_n 1, 1) := by decide +kernel
theorem dX0_at_12 : decode cX0_at 12 = .ok (.iaload, 1) := by decide +kernel
theorem dX0_at_13 : decode cX0_at 13 = .ok (.goto 4, 3) := by decide +kernel
theorem dX0_at_16 : decode cX0_at 16 = .ok (.iconst 0, 1) := by decide +kernel
theorem dX0_at_17 : decode cX0_at 17 = .ok (.ireturn, 1) := by decide +kernel
theorem dX0_put_0 : decode cX0_put 0 = .ok (.iload_n 1, 1) := by decide +kernel
theorem dX0_put_1 : decode cX0_put 1 = .ok (.ifCond .lt 13, 3) := by decide +kernel
theorem dX0_put_4 : decode cX0_put 4 = .ok (.iload_n 1, 1) := by decide +kernel
theorem dX0_put_5 : decode cX0_put 5 = .ok (.aload_n 0, 1) := by decide +kernel
theorem dX0_put_6 : decode cX0_put 6 = .ok (.arraylength, 1) := by decide +kernel
theorem dX0_put_7 : decode cX0_put 7 = .ok (.if_icmp .ge 7, 3) := by decide +kernel
theorem dX0_put_10 : decode cX0_put 10 = .ok (.aload_n 0, 1) := by decide +kernel
theorem dX0_put_11 : decode cX0_put 11 = .ok (.iload_n 1, 1) := by decide +kernel
theorem dX0_put_12 : decode cX0_put 12 = .ok (.iload_n 2, 1) := by decide +kernel
theorem dX0_put_13 : decode cX0_put 13 = .ok (.iastore, 1) := by decide +kernel
theorem dX0_put_14 : decode cX0_put 14 = .ok (.return_, 1) := by decide +kernel
theorem dX0_bitsAt_0 : decode cX0_bitsAt 0 = .ok (.iload_n 1, 1) := by decide +kernel
theorem dX0_bitsAt_1 : decode cX0_bitsAt 1 = .ok (.ifCond .lt 15, 3) := by decide +kernel
theorem dX0_bitsAt_4 : decode cX0_bitsAt 4 = .ok (.iload_n 1, 1) := by decide +kernel
theorem dX0_bitsAt_5 : decode cX0_bitsAt 5 = .ok (.aload_n 0, 1) := by decide +kernel
theorem dX0_bitsAt_6 : decode cX0_bitsAt 6 = .ok (.arraylength, 1) := by decide +kernel
theorem dX0_bitsAt_7 : decode cX0_bitsAt 7 = .ok (.if_icmp .ge 9, 3) := by decide +kernel
theorem dX0_bitsAt_10 : decode cX0_bitsAt 10 = .ok (.aload_n 0, 1) := by decide +kernel
theorem dX0_bitsAt_11 : decode cX0_bitsAt 11 = .ok (.iload_n 1, 1) := by decide +kernel
theorem dX0_bitsAt_12 : decode cX0_bitsAt 12 = .ok (.laload, 1) := by decide +kernel
theorem dX0_bitsAt_13 : decode cX0_bitsAt 13 = .ok (.goto 4, 3) := by decide +kernel
theorem dX0_bitsAt_16 : decode cX0_bitsAt 16 = .ok (.lconst 0, 1) := by decide +kernel
theorem dX0_bitsAt_17 : decode cX0_bitsAt 17 = .ok (.lreturn, 1) := by decide +kernel
theorem dX0_putBits_0 : decode cX0_putBits 0 = .ok (.iload_n 1, 1) := by decide +kernel
theorem dX0_putBits_1 : decode cX0_putBits 1 = .ok (.ifCond .lt 13, 3) := by decide +kernel
theorem dX0_putBits_4 : decode cX0_putBits 4 = .ok (.iload_n 1, 1) := by decide +kernel
theorem dX0_putBits_5 : decode cX0_putBits 5 = .ok (.aload_n 0, 1) := by decide +kernel
theorem dX0_putBits_6 : decode cX0_putBits 6 = .ok (.arraylength, 1) := by decide +kernel
theorem dX0_putBits_7 : decode cX0_putBits 7 = .ok (.if_icmp .ge 7, 3) := by decide +kernel
theorem dX0_putBits_10 : decode cX0_putBits 10 = .ok (.aload_n 0, 1) := by decide +kernel
theorem dX0_putBits_11 : decode cX0_putBits 11 = .ok (.iload_n 1, 1) := by decide +kernel
theorem dX0_putBits_12 : decode cX0_putBits 12 = .ok (.lload_n 2, 1) := by decide +kernel
theorem dX0_putBits_13 : decode cX0_putBits 13 = .ok (.lastore, 1) := by decide +kernel
theorem dX0_putBits_14 : decode cX0_putBits 14 = .ok (.return_, 1) := by decide +kernel
theorem dX0_bitOf_0 : decode cX0_bitOf 0 = .ok (.lconst 1, 1) := by decide +kernel
theorem dX0_bitOf_1 : decode cX0_bitOf 1 = .ok (.iload_n 0, 1) := by decide +kernel
theorem dX0_bitOf_2 : decode cX0_bitOf 2 = .ok (.lshl, 1) := by decide +kernel
theorem dX0_bitOf_3 : decode cX0_bitOf 3 = .ok (.lreturn, 1) := by decide +kernel
theorem dJ13_bitCount_95d88_0 : decode cJ13_bitCount_95d88 0 = .ok (.lload_n 0, 1) := by decide +kernel
theorem dJ13_bitCount_95d88_1 : decode cJ13_bitCount_95d88 1 = .ok (.lload_n 0, 1) := by decide +kernel
theorem dJ13_bitCount_95d88_2 : decode cJ13_bitCount_95d88 2 = .ok (.iconst 1, 1) := by decide +kernel
theorem dJ13_bitCount_95d88_3 : decode cJ13_bitCount_95d88 3 = .ok (.lushr, 1) := by decide +kernel
theorem dJ13_bitCount_95d88_4 : decode cJ13_bitCount_95d88 4 = .ok (.ldc2_w 314, 3) := by decide +kernel
theorem dJ13_bitCount_95d88_7 : decode cJ13_bitCount_95d88 7 = .ok (.land, 1) := by decide +kernel
theorem dJ13_bitCount_95d88_8 : decode cJ13_bitCount_95d88 8 = .ok (.lsub, 1) := by decide +kernel
theorem dJ13_bitCount_95d88_9 : decode cJ13_bitCount_95d88 9 = .ok (.lstore_n 0, 1) := by decide +kernel
theorem dJ13_bitCount_95d88_10 : decode cJ13_bitCount_95d88 10 = .ok (.lload_n 0, 1) := by decide +kernel
theorem dJ13_bitCount_95d88_11 : decode cJ13_bitCount_95d88 11 = .ok (.ldc2_w 316, 3) := by decide +kernel
theorem dJ13_bitCount_95d88_14 : decode cJ13_bitCount_95d88 14 = .ok (.land, 1) := by decide +kernel
theorem dJ13_bitCount_95d88_15 : decode cJ13_bitCount_95d88 15 = .ok (.lload_n 0, 1) := by decide +kernel
theorem dJ13_bitCount_95d88_16 : decode cJ13_bitCount_95d88 16 = .ok (.iconst 2, 1) := by decide +kernel
theorem dJ13_bitCount_95d88_17 : decode cJ13_bitCount_95d88 17 = .ok (.lushr, 1) := by decide +kernel
theorem dJ13_bitCount_95d88_18 : decode cJ13_bitCount_95d88 18 = .ok (.ldc2_w 316, 3) := by decide +kernel
theorem dJ13_bitCount_95d88_21 : decode cJ13_bitCount_95d88 21 = .ok (.land, 1) := by decide +kernel
theorem dJ13_bitCount_95d88_22 : decode cJ13_bitCount_95d88 22 = .ok (.ladd, 1) := by decide +kernel
theorem dJ13_bitCount_95d88_23 : decode cJ13_bitCount_95d88 23 = .ok (.lstore_n 0, 1) := by decide +kernel
theorem dJ13_bitCount_95d88_24 : decode cJ13_bitCount_95d88 24 = .ok (.lload_n 0, 1) := by decide +kernel
theorem dJ13_bitCount_95d88_25 : decode cJ13_bitCount_95d88 25 = .ok (.lload_n 0, 1) := by decide +kernel
theorem dJ13_bitCount_95d88_26 : decode cJ13_bitCount_95d88 26 = .ok (.iconst 4, 1) := by decide +kernel
theorem dJ13_bitCount_95d88_27 : decode cJ13_bitCount_95d88 27 = .ok (.lushr, 1) := by decide +kernel
theorem dJ13_bitCount_95d88_28 : decode cJ13_bitCount_95d88 28 = .ok (.ladd, 1) := by decide +kernel
theorem dJ13_bitCount_95d88_29 : decode cJ13_bitCount_95d88 29 = .ok (.ldc2_w 318, 3) := by decide +kernel
theorem dJ13_bitCount_95d88_32 : decode cJ13_bitCount_95d88 32 = .ok (.land, 1) := by decide +kernel
theorem dJ13_bitCount_95d88_33 : decode cJ13_bitCount_95d88 33 = .ok (.lstore_n 0, 1) := by decide +kernel
theorem dJ13_bitCount_95d88_34 : decode cJ13_bitCount_95d88 34 = .ok (.lload_n 0, 1) := by decide +kernel
theorem dJ13_bitCount_95d88_35 : decode cJ13_bitCount_95d88 35 = .ok (.lload_n 0, 1) := by decide +kernel
theorem dJ13_bitCount_95d88_36 : decode cJ13_bitCount_95d88 36 = .ok (.bipush 8, 2) := by decide +kernel
theorem dJ13_bitCount_95d88_38 : decode cJ13_bitCount_95d88 38 = .ok (.lushr, 1) := by decide +kernel
theorem dJ13_bitCount_95d88_39 : decode cJ13_bitCount_95d88 39 = .ok (.ladd, 1) := by decide +kernel
theorem dJ13_bitCount_95d88_40 : decode cJ13_bitCount_95d88 40 = .ok (.lstore_n 0, 1) := by decide +kernel
theorem dJ13_bitCount_95d88_41 : decode cJ13_bitCount_95d88 41 = .ok (.lload_n 0, 1) := by decide +kernel
theorem dJ13_bitCount_95d88_42 : decode cJ13_bitCount_95d88 42 = .ok (.lload_n 0, 1) := by decide +kernel
theorem dJ13_bitCount_95d88_43 : decode cJ13_bitCount_95d88 43 = .ok (.bipush 16, 2) := by decide +kernel
theorem dJ13_bitCount_95d88_45 : decode cJ13_bitCount_95d88 45 = .ok (.lushr, 1) := by decide +kernel
theorem dJ13_bitCount_95d88_46 : decode cJ13_bitCount_95d88 46 = .ok (.ladd, 1) := by decide +kernel
theorem dJ13_bitCount_95d88_47 : decode cJ13_bitCount_95d88 47 = .ok (.lstore_n 0, 1) := by decide +kernel
theorem dJ13_bitCount_95d88_48 : decode cJ13_bitCount_95d88 48 = .ok (.lload_n 0, 1) := by decide +kernel
theorem dJ13_bitCount_95d88_49 : decode cJ13_bitCount_95d88 49 = .ok (.lload_n 0, 1) := by decide +kernel
theorem dJ13_bitCount_95d88_50 : decode cJ13_bitCount_95d88 50 = .ok (.bipush 32, 2) := by decide +kernel
theorem dJ13_bitCount_95d88_52 : decode cJ13_bitCount_95d88 52 = .ok (.lushr, 1) := by decide +kernel
theorem dJ13_bitCount_95d88_53 : decode cJ13_bitCount_95d88 53 = .ok (.ladd, 1) := by decide +kernel
theorem dJ13_bitCount_95d88_54 : decode cJ13_bitCount_95d88 54 = .ok (.lstore_n 0, 1) := by decide +kernel
theorem dJ13_bitCount_95d88_55 : decode cJ13_bitCount_95d88 55 = .ok (.lload_n 0, 1) := by decide +kernel
theorem dJ13_bitCount_95d88_56 : decode cJ13_bitCount_95d88 56 = .ok (.l2i, 1) := by decide +kernel
theorem dJ13_bitCount_95d88_57 : decode cJ13_bitCount_95d88 57 = .ok (.bipush 127, 2) := by decide +kernel
theorem dJ13_bitCount_95d88_59 : decode cJ13_bitCount_95d88 59 = .ok (.iand, 1) := by decide +kernel
theorem dJ13_bitCount_95d88_60 : decode cJ13_bitCount_95d88 60 = .ok (.ireturn, 1) := by decide +kernel
theorem dJ9_max_7cf53_0 : decode cJ9_max_7cf53 0 = .ok (.iload_n 0, 1) := by decide +kernel
theorem dJ9_max_7cf53_1 : decode cJ9_max_7cf53 1 = .ok (.iload_n 1, 1) := by decide +kernel
theorem dJ9_max_7cf53_2 : decode cJ9_max_7cf53 2 = .ok (.if_icmp .lt 7, 3) := by decide +kernel
theorem dJ9_max_7cf53_5 : decode cJ9_max_7cf53 5 = .ok (.iload_n 0, 1) := by decide +kernel
theorem dJ9_max_7cf53_6 : decode cJ9_max_7cf53 6 = .ok (.goto 4, 3) := by decide +kernel
theorem dJ9_max_7cf53_9 : decode cJ9_max_7cf53 9 = .ok (.iload_n 1, 1) := by decide +kernel
theorem dJ9_max_7cf53_10 : decode cJ9_max_7cf53 10 = .ok (.ireturn, 1) := by decide +kernel
theorem dJ9_min_7cf53_0 : decode cJ9_min_7cf53 0 = .ok (.iload_n 0, 1) := by decide +kernel
theorem dJ9_min_7cf53_1 : decode cJ9_min_7cf53 1 = .ok (.iload_n 1, 1) := by decide +kernel
theorem dJ9_min_7cf53_2 : decode cJ9_min_7cf53 2 = .ok (.if_icmp .gt 7, 3) := by decide +kernel
theorem dJ9_min_7cf53_5 : decode cJ9_min_7cf53 5 = .ok (.iload_n 0, 1) := by decide +kernel
theorem dJ9_min_7cf53_6 : decode cJ9_min_7cf53 6 = .ok (.goto 4, 3) := by decide +kernel
theorem dJ9_min_7cf53_9 : decode cJ9_min_7cf53 9 = .ok (.iload_n 1, 1) := by decide +kernel
theorem dJ9_min_7cf53_10 : decode cJ9_min_7cf53 10 = .ok (.ireturn, 1) := by decide +kernel

theorem dX1_init_0 : decode cX1_init 0 = .ok (.aload_n 0, 1) := by decide +kernel
theorem dX1_init_1 : decode cX1_init 1 = .ok (.invokespecial 1, 3) := by decide +kernel
theorem dX1_init_4 : decode cX1_init 4 = .ok (.aload_n 0, 1) := by decide +kernel
theorem dX1_init_5 : decode cX1_init 5 = .ok (.iconst 0, 1) := by decide +kernel
theorem dX1_init_6 : decode cX1_init 6 = .ok (.anewarray 7, 3) := by decide +kernel
theorem dX1_init_9 : decode cX1_init 9 = .ok (.putfield 9, 3) := by decide +kernel
theorem dX1_init_12 : decode cX1_init 12 = .ok (.aload_n 0, 1) := by decide +kernel
theorem dX1_init_13 : decode cX1_init 13 = .ok (.iconst 0, 1) := by decide +kernel
theorem dX1_init_14 : decode cX1_init 14 = .ok (.anewarray 7, 3) := by decide +kernel
theorem dX1_init_17 : decode cX1_init 17 = .ok (.putfield 15, 3) := by decide +kernel
theorem dX1_init_20 : decode cX1_init 20 = .ok (.return_, 1) := by decide +kernel
theorem dX1_with_0 : decode cX1_with 0 = .ok (.aload_n 0, 1) := by decide +kernel
theorem dX1_with_1 : decode cX1_with 1 = .ok (.arraylength, 1) := by decide +kernel
theorem dX1_with_2 : decode cX1_with 2 = .ok (.iconst 1, 1) := by decide +kernel
theorem dX1_with_3 : decode cX1_with 3 = .ok (.iadd, 1) := by decide +kernel
theorem dX1_with_4 : decode cX1_with 4 = .ok (.anewarray 7, 3) := by decide +kernel
theorem dX1_with_7 : decode cX1_with 7 = .ok (.astore_n 2, 1) := by decide +kernel
theorem dX1_with_8 : decode cX1_with 8 = .ok (.iconst 0, 1) := by decide +kernel
theorem dX1_with_9 : decode cX1_with 9 = .ok (.istore_n 3, 1) := by decide +kernel
theorem dX1_with_10 : decode cX1_with 10 = .ok (.iload_n 3, 1) := by decide +kernel
theorem dX1_with_11 : decode cX1_with 11 = .ok (.aload_n 0, 1) := by decide +kernel
theorem dX1_with_12 : decode cX1_with 12 = .ok (.arraylength, 1) := by decide +kernel
theorem dX1_with_13 : decode cX1_with 13 = .ok (.if_icmp .ge 15, 3) := by decide +kernel
theorem dX1_with_16 : decode cX1_with 16 = .ok (.aload_n 2, 1) := by decide +kernel
theorem dX1_with_17 : decode cX1_with 17 = .ok (.iload_n 3, 1) := by decide +kernel
theorem dX1_with_18 : decode cX1_with 18 = .ok (.aload_n 0, 1) := by decide +kernel
theorem dX1_with_19 : decode cX1_with 19 = .ok (.iload_n 3, 1) := by decide +kernel
theorem dX1_with_20 : decode cX1_with 20 = .ok (.aaload, 1) := by decide +kernel
theorem dX1_with_21 : decode cX1_with 21 = .ok (.aastore, 1) := by decide +kernel
theorem dX1_with_22 : decode cX1_with 22 = .ok (.iinc 3 1, 3) := by decide +kernel
theorem dX1_with_25 : decode cX1_with 25 = .ok (.goto (-15), 3) := by decide +kernel
theorem dX1_with_28 : decode cX1_with 28 = .ok (.aload_n 2, 1) := by decide +kernel
theorem dX1_with_29 : decode cX1_with 29 = .ok (.aload_n 0, 1) := by decide +kernel
theorem dX1_with_30 : decode cX1_with 30 = .ok (.arraylength, 1) := by decide +kernel
theorem dX1_with_31 : decode cX1_with 31 = .ok (.aload_n 1, 1) := by decide +kernel
theorem dX1_with_32 : decode cX1_with 32 = .ok (.aastore, 1) := by decide +kernel
theorem dX1_with_33 : decode cX1_with 33 = .ok (.aload_n 2, 1) := by decide +kernel
theorem dX1_with_34 : decode cX1_with 34 = .ok (.areturn, 1) := by decide +kernel
theorem dX1_with__0 : decode cX1_with_ 0 = .ok (.aload_n 0, 1) := by decide +kernel
theorem dX1_with__1 : decode cX1_with_ 1 = .ok (.arraylength, 1) := by decide +kernel
theorem dX1_with__2 : decode cX1_with_ 2 = .ok (.iconst 1, 1) := by decide +kernel
theorem dX1_with__3 : decode cX1_with_ 3 = .ok (.iadd, 1) := by decide +kernel
theorem dX1_with__4 : decode cX1_with_ 4 = .ok (.newarray .int, 2) := by decide +kernel
theorem dX1_with__6 : decode cX1_with_ 6 = .ok (.astore_n 2, 1) := by decide +kernel
theorem dX1_with__7 : decode cX1_with_ 7 = .ok (.iconst 0, 1) := by decide +kernel
theorem dX1_with__8 : decode cX1_with_ 8 = .ok (.istore_n 3, 1) := by decide +kernel
theorem dX1_with__9 : decode cX1_with_ 9 = .ok (.iload_n 3, 1) := by decide +kernel
theorem dX1_with__10 : decode cX1_with_ 10 = .ok (.aload_n 0, 1) := by decide +kernel
theorem dX1_with__11 : decode cX1_with_ 11 = .ok (.arraylength, 1) := by decide +kernel
theorem dX1_with__12 : decode cX1_with_ 12 = .ok (.if_icmp .ge 15, 3) := by decide +kernel
theorem dX1_with__15 : decode cX1_with_ 15 = .ok (.aload_n 2, 1) := by decide +kernel
theorem dX1_with__16 : decode cX1_with_ 16 = .ok (.iload_n 3, 1) := by decide +kernel
theorem dX1_with__17 : decode cX1_with_ 17 = .ok (.aload_n 0, 1) := by decide +kernel
theorem dX1_with__18 : decode cX1_with_ 18 = .ok (.iload_n 3, 1) := by decide +kernel
theorem dX1_with__19 : decode cX1_with_ 19 = .ok (.iaload, 1) := by decide +kernel
theorem dX1_with__20 : decode cX1_with_ 20 = .ok (.iastore, 1) := by decide +kernel
theorem dX1_with__21 : decode cX1_with_ 21 = .ok (.iinc 3 1, 3) := by decide +kernel
theorem dX1_with__24 : decode cX1_with_ 24 = .ok (.goto (-15), 3) := by decide +kernel
theorem dX1_with__27 : decode cX1_with_ 27 = .ok (.aload_n 2, 1) := by decide +kernel
theorem dX1_with__28 : decode cX1_with_ 28 = .ok (.aload_n 0, 1) := by decide +kernel
theorem dX1_with__29 : decode cX1_with_ 29 = .ok (.arraylength, 1) := by decide +kernel
theorem dX1_with__30 : decode cX1_with_ 30 = .ok (.iload_n 1, 1) := by decide +kernel
theorem dX1_with__31 : decode cX1_with_ 31 = .ok (.iastore, 1) := by decide +kernel
theorem dX1_with__32 : decode cX1_with_ 32 = .ok (.aload_n 2, 1) := by decide +kernel
theorem dX1_with__33 : decode cX1_with_ 33 = .ok (.areturn, 1) := by decide +kernel
theorem dX1_isFork_0 : decode cX1_isFork 0 = .ok (.aload_n 0, 1) := by decide +kernel
theorem dX1_isFork_1 : decode cX1_isFork 1 = .ok (.getfield 9, 3) := by decide +kernel
theorem dX1_isFork_4 : decode cX1_isFork 4 = .ok (.iload_n 1, 1) := by decide +kernel
theorem dX1_isFork_5 : decode cX1_isFork 5 = .ok (.aaload, 1) := by decide +kernel
theorem dX1_isFork_6 : decode cX1_isFork 6 = .ok (.iconst 0, 1) := by decide +kernel
theorem dX1_isFork_7 : decode cX1_isFork 7 = .ok (.iaload, 1) := by decide +kernel
theorem dX1_isFork_8 : decode cX1_isFork 8 = .ok (.iconst 1, 1) := by decide +kernel
theorem dX1_isFork_9 : decode cX1_isFork 9 = .ok (.if_icmp .ne 7, 3) := by decide +kernel
theorem dX1_isFork_12 : decode cX1_isFork 12 = .ok (.iconst 1, 1) := by decide +kernel
theorem dX1_isFork_13 : decode cX1_isFork 13 = .ok (.goto 4, 3) := by decide +kernel
theorem dX1_isFork_16 : decode cX1_isFork 16 = .ok (.iconst 0, 1) := by decide +kernel
theorem dX1_isFork_17 : decode cX1_isFork 17 = .ok (.ireturn, 1) := by decide +kernel
set_option maxRecDepth 20000 in
theorem ggX1_isGraded_X1_isFork : GoodIn wsX1_isGraded wsX1_isFork := goodIn_r _ [6, 1, 7, 8] (by decide +kernel) (by decide +kernel)
set_option maxRecDepth 20000 in
theorem gX1_isGraded_X1_isFork : GoodIn wsX1_isGraded (wsV RX1 18 RX1 yX1_isFork wsX1_isFork) := goodIn_app (goodIn_of _ (by decide +kernel)) ggX1_isGraded_X1_isFork
theorem dX1_isGraded_0 : decode cX1_isGraded 0 = .ok (.aload_n 0, 1) := by decide +kernel
theorem dX1_isGraded_1 : decode cX1_isGraded 1 = .ok (.iload_n 1, 1) := by decide +kernel
theorem dX1_isGraded_2 : decode cX1_isGraded 2 = .ok (.invokevirtual 18, 3) := by decide +kernel
theorem dX1_isGraded_5 : decode cX1_isGraded 5 = .ok (.ifCond .ne 18, 3) := by decide +kernel
theorem dX1_isGraded_8 : decode cX1_isGraded 8 = .ok (.aload_n 0, 1) := by decide +kernel
theorem dX1_isGraded_9 : decode cX1_isGraded 9 = .ok (.getfield 9, 3) := by decide +kernel
theorem dX1_isGraded_12 : decode cX1_isGraded 12 = .ok (.iload_n 1, 1) := by decide +kernel
theorem dX1_isGraded_13 : decode cX1_isGraded 13 = .ok (.aaload, 1) := by decide +kernel
theorem dX1_isGraded_14 : decode cX1_isGraded 14 = .ok (.iconst 3, 1) := by decide +kernel
theorem dX1_isGraded_15 : decode cX1_isGraded 15 = .ok (.iaload, 1) := by decide +kernel
theorem dX1_isGraded_16 : decode cX1_isGraded 16 = .ok (.ifCond .lt 7, 3) := by decide +kernel
theorem dX1_isGraded_19 : decode cX1_isGraded 19 = .ok (.iconst 1, 1) := by decide +kernel
theorem dX1_isGraded_20 : decode cX1_isGraded 20 = .ok (.goto 4, 3) := by decide +kernel
theorem dX1_isGraded_23 : decode cX1_isGraded 23 = .ok (.iconst 0, 1) := by decide +kernel
theorem dX1_isGraded_24 : decode cX1_isGraded 24 = .ok (.ireturn, 1) := by decide +kernel
set_option maxRecDepth 20000 in
theorem ggX1_reached_X1_isFork : GoodIn wsX1_reached wsX1_isFork := goodIn_r _ [7, 1, 8, 9] (by decide +kernel) (by decide +kernel)
set_option maxRecDepth 20000 in
theorem gX1_reached_X1_isFork : GoodIn wsX1_reached (wsV RX1 18 RX1 yX1_isFork wsX1_isFork) := goodIn_app (goodIn_of _ (by decide +kernel)) ggX1_reached_X1_isFork
theorem dX1_reached_0 : decode cX1_reached 0 = .ok (.aload_n 0, 1) := by decide +kernel
theorem dX1_reached_1 : decode cX1_reached 1 = .ok (.getfield 9, 3) := by decide +kernel
theorem dX1_reached_4 : decode cX1_reached 4 = .ok (.arraylength, 1) := by decide +kernel
theorem dX1_reached_5 : decode cX1_reached 5 = .ok (.newarray .boolean, 2) := by decide +kernel
theorem dX1_reached_7 : decode cX1_reached 7 = .ok (.astore_n 2, 1) := by decide +kernel
theorem dX1_reached_8 : decode cX1_reached 8 = .ok (.aload_n 2, 1) := by decide +kernel
theorem dX1_reached_9 : decode cX1_reached 9 = .ok (.iload_n 1, 1) := by decide +kernel
theorem dX1_reached_10 : decode cX1_reached 10 = .ok (.iconst 1, 1) := by decide +kernel
theorem dX1_reached_11 : decode cX1_reached 11 = .ok (.bastore, 1) := by decide +kernel
theorem dX1_reached_12 : decode cX1_reached 12 = .ok (.iload_n 1, 1) := by decide +kernel
theorem dX1_reached_13 : decode cX1_reached 13 = .ok (.istore_n 3, 1) := by decide +kernel
theorem dX1_reached_14 : decode cX1_reached 14 = .ok (.iload_n 3, 1) := by decide +kernel
theorem dX1_reached_15 : decode cX1_reached 15 = .ok (.ifCond .lt 48, 3) := by decide +kernel
theorem dX1_reached_18 : decode cX1_reached 18 = .ok (.aload_n 2, 1) := by decide +kernel
theorem dX1_reached_19 : decode cX1_reached 19 = .ok (.iload_n 3, 1) := by decide +kernel
theorem dX1_reached_20 : decode cX1_reached 20 = .ok (.baload, 1) := by decide +kernel
theorem dX1_reached_21 : decode cX1_reached 21 = .ok (.ifCond .eq 36, 3) := by decide +kernel
theorem dX1_reached_24 : decode cX1_reached 24 = .ok (.aload_n 0, 1) := by decide +kernel
theorem dX1_reached_25 : decode cX1_reached 25 = .ok (.iload_n 3, 1) := by decide +kernel
theorem dX1_reached_26 : decode cX1_reached 26 = .ok (.invokevirtual 18, 3) := by decide +kernel
theorem dX1_reached_29 : decode cX1_reached 29 = .ok (.ifCond .ne 6, 3) := by decide +kernel
theorem dX1_reached_32 : decode cX1_reached 32 = .ok (.goto 25, 3) := by decide +kernel
theorem dX1_reached_35 : decode cX1_reached 35 = .ok (.aload_n 2, 1) := by decide +kernel
theorem dX1_reached_36 : decode cX1_reached 36 = .ok (.aload_n 0, 1) := by decide +kernel
theorem dX1_reached_37 : decode cX1_reached 37 = .ok (.getfield 9, 3) := by decide +kernel
theorem dX1_reached_40 : decode cX1_reached 40 = .ok (.iload_n 3, 1) := by decide +kernel
theorem dX1_reached_41 : decode cX1_reached 41 = .ok (.aaload, 1) := by decide +kernel
theorem dX1_reached_42 : decode cX1_reached 42 = .ok (.iconst 1, 1) := by decide +kernel
theorem dX1_reached_43 : decode cX1_reached 43 = .ok (.iaload, 1) := by decide +kernel
theorem dX1_reached_44 : decode cX1_reached 44 = .ok (.iconst 1, 1) := by decide +kernel
theorem dX1_reached_45 : decode cX1_reached 45 = .ok (.bastore, 1) := by decide +kernel
theorem dX1_reached_46 : decode cX1_reached 46 = .ok (.aload_n 2, 1) := by decide +kernel
theorem dX1_reached_47 : decode cX1_reached 47 = .ok (.aload_n 0, 1) := by decide +kernel
theorem dX1_reached_48 : decode cX1_reached 48 = .ok (.getfield 9, 3) := by decide +kernel
theorem dX1_reached_51 : decode cX1_reached 51 = .ok (.iload_n 3, 1) := by decide +kernel
theorem dX1_reached_52 : decode cX1_reached 52 = .ok (.aaload, 1) := by decide +kernel
theorem dX1_reached_53 : decode cX1_reached 53 = .ok (.iconst 2, 1) := by decide +kernel
theorem dX1_reached_54 : decode cX1_reached 54 = .ok (.iaload, 1) := by decide +kernel
theorem dX1_reached_55 : decode cX1_reached 55 = .ok (.iconst 1, 1) := by decide +kernel
theorem dX1_reached_56 : decode cX1_reached 56 = .ok (.bastore, 1) := by decide +kernel
theorem dX1_reached_57 : decode cX1_reached 57 = .ok (.iinc 3 (-1), 3) := by decide +kernel
theorem dX1_reached_60 : decode cX1_reached 60 = .ok (.goto (-46), 3) := by decide +kernel
theorem dX1_reached_63 : decode cX1_reached 63 = .ok (.aload_n 2, 1) := by decide +kernel
theorem dX1_reached_64 : decode cX1_reached 64 = .ok (.areturn, 1) := by decide +kernel
set_option maxRecDepth 20000 in
theorem ggX1_best_X1_reached : GoodIn wsX1_best wsX1_reached := goodIn_r _ [6, 1, 7, 8, 9, 10, 5, 11, 16, 17] (by decide +kernel) (by decide +kernel)
set_option maxRecDepth 20000 in
theorem gX1_best_X1_reached : GoodIn wsX1_best (wsV RX1 22 RX1 yX1_reached wsX1_reached) := goodIn_app (goodIn_of _ (by decide +kernel)) ggX1_best_X1_reached
set_option maxRecDepth 20000 in
theorem ggX1_best_X1_isFork : GoodIn wsX1_best wsX1_isFork := goodIn_r _ [11, 1, 16, 17] (by decide +kernel) (by decide +kernel)
set_option maxRecDepth 20000 in
theorem gX1_best_X1_isFork : GoodIn wsX1_best (wsV RX1 18 RX1 yX1_isFork wsX1_isFork) := goodIn_app (goodIn_of _ (by decide +kernel)) ggX1_best_X1_isFork
set_option maxRecDepth 20000 in
theorem ggX1_best_X1_isGraded : GoodIn wsX1_best wsX1_isGraded := goodIn_r _ [15, 1, 8, 9, 10, 5, 11, 16, 17] (by decide +kernel) (by decide +kernel)
set_option maxRecDepth 20000 in
theorem gX1_best_X1_isGraded : GoodIn wsX1_best (wsV RX1 26 RX1 yX1_isGraded wsX1_isGraded) := goodIn_app (goodIn_of _ (by decide +kernel)) ggX1_best_X1_isGraded
theorem dX1_best_0 : decode cX1_best 0 = .ok (.aload_n 0, 1) := by decide +kernel
theorem dX1_best_1 : decode cX1_best 1 = .ok (.iload_n 1, 1) := by decide +kernel
theorem dX1_best_2 : decode cX1_best 2 = .ok (.invokevirtual 22, 3) := by decide +kernel
theorem dX1_best_5 : decode cX1_best 5 = .ok (.astore_n 3, 1) := by decide +kernel
theorem dX1_best_6 : decode cX1_best 6 = .ok (.iconst (-1), 1) := by decide +kernel
theorem dX1_best_7 : decode cX1_best 7 = .ok (.istore 4, 2) := by decide +kernel
theorem dX1_best_9 : decode cX1_best 9 = .ok (.iconst 0, 1) := by decide +kernel
theorem dX1_best_10 : decode cX1_best 10 = .ok (.istore 5, 2) := by decide +kernel
theorem dX1_best_12 : decode cX1_best 12 = .ok (.iload 5, 2) := by decide +kernel
theorem dX1_best_14 : decode cX1_best 14 = .ok (.iload_n 1, 1) := by decide +kernel
theorem dX1_best_15 : decode cX1_best 15 = .ok (.if_icmp .gt 84, 3) := by decide +kernel
theorem dX1_best_18 : decode cX1_best 18 = .ok (.aload_n 3, 1) := by decide +kernel
theorem dX1_best_19 : decode cX1_best 19 = .ok (.iload 5, 2) := by decide +kernel
theorem dX1_best_21 : decode cX1_best 21 = .ok (.baload, 1) := by decide +kernel
theorem dX1_best_22 : decode cX1_best 22 = .ok (.ifCond .eq 71, 3) := by decide +kernel
theorem dX1_best_25 : decode cX1_best 25 = .ok (.aload_n 0, 1) := by decide +kernel
theorem dX1_best_26 : decode cX1_best 26 = .ok (.iload 5, 2) := by decide +kernel
theorem dX1_best_28 : decode cX1_best 28 = .ok (.invokevirtual 18, 3) := by decide +kernel
theorem dX1_best_31 : decode cX1_best 31 = .ok (.ifCond .eq 6, 3) := by decide +kernel
theorem dX1_best_34 : decode cX1_best 34 = .ok (.goto 59, 3) := by decide +kernel
theorem dX1_best_37 : decode cX1_best 37 = .ok (.aload_n 0, 1) := by decide +kernel
theorem dX1_best_38 : decode cX1_best 38 = .ok (.iload 5, 2) := by decide +kernel
theorem dX1_best_40 : decode cX1_best 40 = .ok (.invokevirtual 26, 3) := by decide +kernel
theorem dX1_best_43 : decode cX1_best 43 = .ok (.ifCond .eq 15, 3) := by decide +kernel
theorem dX1_best_46 : decode cX1_best 46 = .ok (.aload_n 0, 1) := by decide +kernel
theorem dX1_best_47 : decode cX1_best 47 = .ok (.getfield 9, 3) := by decide +kernel
theorem dX1_best_50 : decode cX1_best 50 = .ok (.iload 5, 2) := by decide +kernel
theorem dX1_best_52 : decode cX1_best 52 = .ok (.aaload, 1) := by decide +kernel
theorem dX1_best_53 : decode cX1_best 53 = .ok (.iconst 3, 1) := by decide +kernel
theorem dX1_best_54 : decode cX1_best 54 = .ok (.iaload, 1) := by decide +kernel
theorem dX1_best_55 : decode cX1_best 55 = .ok (.goto 20, 3) := by decide +kernel
theorem dX1_best_58 : decode cX1_best 58 = .ok (.aload_n 0, 1) := by decide +kernel
theorem dX1_best_59 : decode cX1_best 59 = .ok (.getfield 9, 3) := by decide +kernel
theorem dX1_best_62 : decode cX1_best 62 = .ok (.iload 5, 2) := by decide +kernel
theorem dX1_best_64 : decode cX1_best 64 = .ok (.aaload, 1) := by decide +kernel
theorem dX1_best_65 : decode cX1_best 65 = .ok (.iload_n 2, 1) := by decide +kernel
theorem dX1_best_66 : decode cX1_best 66 = .ok (.ifCond .eq 7, 3) := by decide +kernel
theorem dX1_best_69 : decode cX1_best 69 = .ok (.iconst 2, 1) := by decide +kernel
theorem dX1_best_70 : decode cX1_best 70 = .ok (.goto 4, 3) := by decide +kernel
theorem dX1_best_73 : decode cX1_best 73 = .ok (.iconst 1, 1) := by decide +kernel
theorem dX1_best_74 : decode cX1_best 74 = .ok (.iaload, 1) := by decide +kernel
theorem dX1_best_75 : decode cX1_best 75 = .ok (.istore 6, 2) := by decide +kernel
theorem dX1_best_77 : decode cX1_best 77 = .ok (.iload 6, 2) := by decide +kernel
theorem dX1_best_79 : decode cX1_best 79 = .ok (.iload 4, 2) := by decide +kernel
theorem dX1_best_81 : decode cX1_best 81 = .ok (.if_icmp .le 8, 3) := by decide +kernel
theorem dX1_best_84 : decode cX1_best 84 = .ok (.iload 6, 2) := by decide +kernel
theorem dX1_best_86 : decode cX1_best 86 = .ok (.goto 5, 3) := by decide +kernel
theorem dX1_best_89 : decode cX1_best 89 = .ok (.iload 4, 2) := by decide +kernel
theorem dX1_best_91 : decode cX1_best 91 = .ok (.istore 4, 2) := by decide +kernel
theorem dX1_best_93 : decode cX1_best 93 = .ok (.iinc 5 1, 3) := by decide +kernel
theorem dX1_best_96 : decode cX1_best 96 = .ok (.goto (-84), 3) := by decide +kernel
theorem dX1_best_99 : decode cX1_best 99 = .ok (.iload 4, 2) := by decide +kernel
theorem dX1_best_101 : decode cX1_best 101 = .ok (.ireturn, 1) := by decide +kernel
set_option maxRecDepth 20000 in
theorem ggX1_hindsight_X1_reached : GoodIn wsX1_hindsight wsX1_reached := goodIn_r _ [6, 1, 7, 8, 9, 10, 5, 11, 16, 17] (by decide +kernel) (by decide +kernel)
set_option maxRecDepth 20000 in
theorem gX1_hindsight_X1_reached : GoodIn wsX1_hindsight (wsV RX1 22 RX1 yX1_reached wsX1_reached) := goodIn_app (goodIn_of _ (by decide +kernel)) ggX1_hindsight_X1_reached
set_option maxRecDepth 20000 in
theorem ggX1_hindsight_X1_isGraded : GoodIn wsX1_hindsight wsX1_isGraded := goodIn_r _ [15, 1, 8, 9, 10, 5, 11, 16, 17] (by decide +kernel) (by decide +kernel)
set_option maxRecDepth 20000 in
theorem gX1_hindsight_X1_isGraded : GoodIn wsX1_hindsight (wsV RX1 26 RX1 yX1_isGraded wsX1_isGraded) := goodIn_app (goodIn_of _ (by decide +kernel)) ggX1_hindsight_X1_isGraded
theorem dX1_hindsight_0 : decode cX1_hindsight 0 = .ok (.aload_n 0, 1) := by decide +kernel
theorem dX1_hindsight_1 : decode cX1_hindsight 1 = .ok (.iload_n 1, 1) := by decide +kernel
theorem dX1_hindsight_2 : decode cX1_hindsight 2 = .ok (.invokevirtual 22, 3) := by decide +kernel
theorem dX1_hindsight_5 : decode cX1_hindsight 5 = .ok (.astore_n 2, 1) := by decide +kernel
theorem dX1_hindsight_6 : decode cX1_hindsight 6 = .ok (.iconst 0, 1) := by decide +kernel
theorem dX1_hindsight_7 : decode cX1_hindsight 7 = .ok (.istore_n 3, 1) := by decide +kernel
theorem dX1_hindsight_8 : decode cX1_hindsight 8 = .ok (.iconst 0, 1) := by decide +kernel
theorem dX1_hindsight_9 : decode cX1_hindsight 9 = .ok (.istore 4, 2) := by decide +kernel
theorem dX1_hindsight_11 : decode cX1_hindsight 11 = .ok (.iload 4, 2) := by decide +kernel
theorem dX1_hindsight_13 : decode cX1_hindsight 13 = .ok (.iload_n 1, 1) := by decide +kernel
theorem dX1_hindsight_14 : decode cX1_hindsight 14 = .ok (.if_icmp .ge 48, 3) := by decide +kernel
theorem dX1_hindsight_17 : decode cX1_hindsight 17 = .ok (.aload_n 2, 1) := by decide +kernel
theorem dX1_hindsight_18 : decode cX1_hindsight 18 = .ok (.iload 4, 2) := by decide +kernel
theorem dX1_hindsight_20 : decode cX1_hindsight 20 = .ok (.baload, 1) := by decide +kernel
theorem dX1_hindsight_21 : decode cX1_hindsight 21 = .ok (.ifCond .eq 35, 3) := by decide +kernel
theorem dX1_hindsight_24 : decode cX1_hindsight 24 = .ok (.aload_n 0, 1) := by decide +kernel
theorem dX1_hindsight_25 : decode cX1_hindsight 25 = .ok (.iload 4, 2) := by decide +kernel
theorem dX1_hindsight_27 : decode cX1_hindsight 27 = .ok (.invokevirtual 26, 3) := by decide +kernel
theorem dX1_hindsight_30 : decode cX1_hindsight 30 = .ok (.ifCond .eq 26, 3) := by decide +kernel
theorem dX1_hindsight_33 : decode cX1_hindsight 33 = .ok (.aload_n 0, 1) := by decide +kernel
theorem dX1_hindsight_34 : decode cX1_hindsight 34 = .ok (.getfield 9, 3) := by decide +kernel
theorem dX1_hindsight_37 : decode cX1_hindsight 37 = .ok (.iload 4, 2) := by decide +kernel
theorem dX1_hindsight_39 : decode cX1_hindsight 39 = .ok (.aaload, 1) := by decide +kernel
theorem dX1_hindsight_40 : decode cX1_hindsight 40 = .ok (.iconst 3, 1) := by decide +kernel
theorem dX1_hindsight_41 : decode cX1_hindsight 41 = .ok (.iaload, 1) := by decide +kernel
theorem dX1_hindsight_42 : decode cX1_hindsight 42 = .ok (.iload_n 3, 1) := by decide +kernel
theorem dX1_hindsight_43 : decode cX1_hindsight 43 = .ok (.if_icmp .le 13, 3) := by decide +kernel
theorem dX1_hindsight_46 : decode cX1_hindsight 46 = .ok (.aload_n 0, 1) := by decide +kernel
theorem dX1_hindsight_47 : decode cX1_hindsight 47 = .ok (.getfield 9, 3) := by decide +kernel
theorem dX1_hindsight_50 : decode cX1_hindsight 50 = .ok (.iload 4, 2) := by decide +kernel
theorem dX1_hindsight_52 : decode cX1_hindsight 52 = .ok (.aaload, 1) := by decide +kernel
theorem dX1_hindsight_53 : decode cX1_hindsight 53 = .ok (.iconst 3, 1) := by decide +kernel
theorem dX1_hindsight_54 : decode cX1_hindsight 54 = .ok (.iaload, 1) := by decide +kernel
theorem dX1_hindsight_55 : decode cX1_hindsight 55 = .ok (.istore_n 3, 1) := by decide +kernel
theorem dX1_hindsight_56 : decode cX1_hindsight 56 = .ok (.iinc 4 1, 3) := by decide +kernel
theorem dX1_hindsight_59 : decode cX1_hindsight 59 = .ok (.goto (-48), 3) := by decide +kernel
theorem dX1_hindsight_62 : decode cX1_hindsight 62 = .ok (.iload_n 3, 1) := by decide +kernel
theorem dX1_hindsight_63 : decode cX1_hindsight 63 = .ok (.ireturn, 1) := by decide +kernel
set_option maxRecDepth 20000 in
theorem ggX1_exams_X1_reached : GoodIn wsX1_exams wsX1_reached := goodIn_r _ [5, 6, 7, 8, 9, 10, 4, 11, 12, 13] (by decide +kernel) (by decide +kernel)
set_option maxRecDepth 20000 in
theorem gX1_exams_X1_reached : GoodIn wsX1_exams (wsV RX1 22 RX1 yX1_reached wsX1_reached) := goodIn_app (goodIn_of _ (by decide +kernel)) ggX1_exams_X1_reached
set_option maxRecDepth 20000 in
theorem ggX1_exams_X1_isFork : GoodIn wsX1_exams wsX1_isFork := goodIn_r _ [11, 6, 12, 13] (by decide +kernel) (by decide +kernel)
set_option maxRecDepth 20000 in
theorem gX1_exams_X1_isFork : GoodIn wsX1_exams (wsV RX1 18 RX1 yX1_isFork wsX1_isFork) := goodIn_app (goodIn_of _ (by decide +kernel)) ggX1_exams_X1_isFork
theorem dX1_exams_0 : decode cX1_exams 0 = .ok (.aload_n 0, 1) := by decide +kernel
theorem dX1_exams_1 : decode cX1_exams 1 = .ok (.iload_n 1, 1) := by decide +kernel
theorem dX1_exams_2 : decode cX1_exams 2 = .ok (.invokevirtual 22, 3) := by decide +kernel
theorem dX1_exams_5 : decode cX1_exams 5 = .ok (.astore_n 2, 1) := by decide +kernel
theorem dX1_exams_6 : decode cX1_exams 6 = .ok (.iconst 0, 1) := by decide +kernel
theorem dX1_exams_7 : decode cX1_exams 7 = .ok (.istore_n 3, 1) := by decide +kernel
theorem dX1_exams_8 : decode cX1_exams 8 = .ok (.iconst 0, 1) := by decide +kernel
theorem dX1_exams_9 : decode cX1_exams 9 = .ok (.istore 4, 2) := by decide +kernel
theorem dX1_exams_11 : decode cX1_exams 11 = .ok (.iload 4, 2) := by decide +kernel
theorem dX1_exams_13 : decode cX1_exams 13 = .ok (.iload_n 1, 1) := by decide +kernel
theorem dX1_exams_14 : decode cX1_exams 14 = .ok (.if_icmp .gt 33, 3) := by decide +kernel
theorem dX1_exams_17 : decode cX1_exams 17 = .ok (.iload_n 3, 1) := by decide +kernel
theorem dX1_exams_18 : decode cX1_exams 18 = .ok (.aload_n 2, 1) := by decide +kernel
theorem dX1_exams_19 : decode cX1_exams 19 = .ok (.iload 4, 2) := by decide +kernel
theorem dX1_exams_21 : decode cX1_exams 21 = .ok (.baload, 1) := by decide +kernel
theorem dX1_exams_22 : decode cX1_exams 22 = .ok (.ifCond .eq 16, 3) := by decide +kernel
theorem dX1_exams_25 : decode cX1_exams 25 = .ok (.aload_n 0, 1) := by decide +kernel
theorem dX1_exams_26 : decode cX1_exams 26 = .ok (.iload 4, 2) := by decide +kernel
theorem dX1_exams_28 : decode cX1_exams 28 = .ok (.invokevirtual 18, 3) := by decide +kernel
theorem dX1_exams_31 : decode cX1_exams 31 = .ok (.ifCond .ne 7, 3) := by decide +kernel
theorem dX1_exams_34 : decode cX1_exams 34 = .ok (.iconst 1, 1) := by decide +kernel
theorem dX1_exams_35 : decode cX1_exams 35 = .ok (.goto 4, 3) := by decide +kernel
theorem dX1_exams_38 : decode cX1_exams 38 = .ok (.iconst 0, 1) := by decide +kernel
theorem dX1_exams_39 : decode cX1_exams 39 = .ok (.iadd, 1) := by decide +kernel
theorem dX1_exams_40 : decode cX1_exams 40 = .ok (.istore_n 3, 1) := by decide +kernel
theorem dX1_exams_41 : decode cX1_exams 41 = .ok (.iinc 4 1, 3) := by decide +kernel
theorem dX1_exams_44 : decode cX1_exams 44 = .ok (.goto (-33), 3) := by decide +kernel
theorem dX1_exams_47 : decode cX1_exams 47 = .ok (.iload_n 3, 1) := by decide +kernel
theorem dX1_exams_48 : decode cX1_exams 48 = .ok (.ireturn, 1) := by decide +kernel
set_option maxRecDepth 20000 in
theorem ggX1_risk_X1_best : GoodIn wsX1_risk wsX1_best := goodIn_r _ [6, 1, 7, 8, 9, 5, 10, 11, 12, 13, 14, 15, 16, 17, 18, 19, 20, 21] (by decide +kernel) (by decide +kernel)
set_option maxRecDepth 20000 in
theorem gX1_risk_X1_best : GoodIn wsX1_risk (wsV RX1 29 RX1 yX1_best wsX1_best) := goodIn_app (goodIn_of _ (by decide +kernel)) ggX1_risk_X1_best
theorem dX1_risk_0 : decode cX1_risk 0 = .ok (.aload_n 0, 1) := by decide +kernel
theorem dX1_risk_1 : decode cX1_risk 1 = .ok (.aload_n 0, 1) := by decide +kernel
theorem dX1_risk_2 : decode cX1_risk 2 = .ok (.getfield 9, 3) := by decide +kernel
theorem dX1_risk_5 : decode cX1_risk 5 = .ok (.iload_n 1, 1) := by decide +kernel
theorem dX1_risk_6 : decode cX1_risk 6 = .ok (.aaload, 1) := by decide +kernel
theorem dX1_risk_7 : decode cX1_risk 7 = .ok (.iload_n 2, 1) := by decide +kernel
theorem dX1_risk_8 : decode cX1_risk 8 = .ok (.ifCond .eq 7, 3) := by decide +kernel
theorem dX1_risk_11 : decode cX1_risk 11 = .ok (.iconst 1, 1) := by decide +kernel
theorem dX1_risk_12 : decode cX1_risk 12 = .ok (.goto 4, 3) := by decide +kernel
theorem dX1_risk_15 : decode cX1_risk 15 = .ok (.iconst 2, 1) := by decide +kernel
theorem dX1_risk_16 : decode cX1_risk 16 = .ok (.iaload, 1) := by decide +kernel
theorem dX1_risk_17 : decode cX1_risk 17 = .ok (.iconst 1, 1) := by decide +kernel
theorem dX1_risk_18 : decode cX1_risk 18 = .ok (.invokevirtual 29, 3) := by decide +kernel
theorem dX1_risk_21 : decode cX1_risk 21 = .ok (.aload_n 0, 1) := by decide +kernel
theorem dX1_risk_22 : decode cX1_risk 22 = .ok (.aload_n 0, 1) := by decide +kernel
theorem dX1_risk_23 : decode cX1_risk 23 = .ok (.getfield 9, 3) := by decide +kernel
theorem dX1_risk_26 : decode cX1_risk 26 = .ok (.iload_n 1, 1) := by decide +kernel
theorem dX1_risk_27 : decode cX1_risk 27 = .ok (.aaload, 1) := by decide +kernel
theorem dX1_risk_28 : decode cX1_risk 28 = .ok (.iload_n 2, 1) := by decide +kernel
theorem dX1_risk_29 : decode cX1_risk 29 = .ok (.ifCond .eq 7, 3) := by decide +kernel
theorem dX1_risk_32 : decode cX1_risk 32 = .ok (.iconst 2, 1) := by decide +kernel
theorem dX1_risk_33 : decode cX1_risk 33 = .ok (.goto 4, 3) := by decide +kernel
theorem dX1_risk_36 : decode cX1_risk 36 = .ok (.iconst 1, 1) := by decide +kernel
theorem dX1_risk_37 : decode cX1_risk 37 = .ok (.iaload, 1) := by decide +kernel
theorem dX1_risk_38 : decode cX1_risk 38 = .ok (.iconst 0, 1) := by decide +kernel
theorem dX1_risk_39 : decode cX1_risk 39 = .ok (.invokevirtual 29, 3) := by decide +kernel
theorem dX1_risk_42 : decode cX1_risk 42 = .ok (.isub, 1) := by decide +kernel
theorem dX1_risk_43 : decode cX1_risk 43 = .ok (.istore_n 3, 1) := by decide +kernel
theorem dX1_risk_44 : decode cX1_risk 44 = .ok (.iload_n 3, 1) := by decide +kernel
theorem dX1_risk_45 : decode cX1_risk 45 = .ok (.ifCond .ge 7, 3) := by decide +kernel
theorem dX1_risk_48 : decode cX1_risk 48 = .ok (.iconst 0, 1) := by decide +kernel
theorem dX1_risk_49 : decode cX1_risk 49 = .ok (.goto 13, 3) := by decide +kernel
theorem dX1_risk_52 : decode cX1_risk 52 = .ok (.iload_n 3, 1) := by decide +kernel
theorem dX1_risk_53 : decode cX1_risk 53 = .ok (.aload_n 0, 1) := by decide +kernel
theorem dX1_risk_54 : decode cX1_risk 54 = .ok (.getfield 9, 3) := by decide +kernel
theorem dX1_risk_57 : decode cX1_risk 57 = .ok (.iload_n 1, 1) := by decide +kernel
theorem dX1_risk_58 : decode cX1_risk 58 = .ok (.aaload, 1) := by decide +kernel
theorem dX1_risk_59 : decode cX1_risk 59 = .ok (.iconst 3, 1) := by decide +kernel
theorem dX1_risk_60 : decode cX1_risk 60 = .ok (.iaload, 1) := by decide +kernel
theorem dX1_risk_61 : decode cX1_risk 61 = .ok (.imul, 1) := by decide +kernel
theorem dX1_risk_62 : decode cX1_risk 62 = .ok (.ireturn, 1) := by decide +kernel
set_option maxRecDepth 20000 in
theorem ggX1_next_X1_risk : GoodIn wsX1_next wsX1_risk := goodIn_r _ [6, 1, 7, 8, 9, 5, 10, 11, 12, 13, 14, 15, 16, 17, 18, 19, 20, 21, 22, 23, 24, 25] (by decide +kernel) (by decide +kernel)
set_option maxRecDepth 20000 in
theorem gX1_next_X1_risk : GoodIn wsX1_next (wsV RX1 33 RX1 yX1_risk wsX1_risk) := goodIn_app (goodIn_of _ (by decide +kernel)) ggX1_next_X1_risk
theorem dX1_next_0 : decode cX1_next 0 = .ok (.aload_n 0, 1) := by decide +kernel
theorem dX1_next_1 : decode cX1_next 1 = .ok (.iload_n 1, 1) := by decide +kernel
theorem dX1_next_2 : decode cX1_next 2 = .ok (.iconst 0, 1) := by decide +kernel
theorem dX1_next_3 : decode cX1_next 3 = .ok (.invokevirtual 33, 3) := by decide +kernel
theorem dX1_next_6 : decode cX1_next 6 = .ok (.aload_n 0, 1) := by decide +kernel
theorem dX1_next_7 : decode cX1_next 7 = .ok (.iload_n 1, 1) := by decide +kernel
theorem dX1_next_8 : decode cX1_next 8 = .ok (.iconst 1, 1) := by decide +kernel
theorem dX1_next_9 : decode cX1_next 9 = .ok (.invokevirtual 33, 3) := by decide +kernel
theorem dX1_next_12 : decode cX1_next 12 = .ok (.if_icmp .gt 14, 3) := by decide +kernel
theorem dX1_next_15 : decode cX1_next 15 = .ok (.aload_n 0, 1) := by decide +kernel
theorem dX1_next_16 : decode cX1_next 16 = .ok (.getfield 9, 3) := by decide +kernel
theorem dX1_next_19 : decode cX1_next 19 = .ok (.iload_n 1, 1) := by decide +kernel
theorem dX1_next_20 : decode cX1_next 20 = .ok (.aaload, 1) := by decide +kernel
theorem dX1_next_21 : decode cX1_next 21 = .ok (.iconst 1, 1) := by decide +kernel
theorem dX1_next_22 : decode cX1_next 22 = .ok (.iaload, 1) := by decide +kernel
theorem dX1_next_23 : decode cX1_next 23 = .ok (.goto 11, 3) := by decide +kernel
theorem dX1_next_26 : decode cX1_next 26 = .ok (.aload_n 0, 1) := by decide +kernel
theorem dX1_next_27 : decode cX1_next 27 = .ok (.getfield 9, 3) := by decide +kernel
theorem dX1_next_30 : decode cX1_next 30 = .ok (.iload_n 1, 1) := by decide +kernel
theorem dX1_next_31 : decode cX1_next 31 = .ok (.aaload, 1) := by decide +kernel
theorem dX1_next_32 : decode cX1_next 32 = .ok (.iconst 2, 1) := by decide +kernel
theorem dX1_next_33 : decode cX1_next 33 = .ok (.iaload, 1) := by decide +kernel
theorem dX1_next_34 : decode cX1_next 34 = .ok (.ireturn, 1) := by decide +kernel
set_option maxRecDepth 20000 in
theorem ggX1_end_X1_isFork : GoodIn wsX1_end wsX1_isFork := goodIn_r _ [5, 6, 28, 29] (by decide +kernel) (by decide +kernel)
set_option maxRecDepth 20000 in
theorem gX1_end_X1_isFork : GoodIn wsX1_end (wsV RX1 18 RX1 yX1_isFork wsX1_isFork) := goodIn_app (goodIn_of _ (by decide +kernel)) ggX1_end_X1_isFork
set_option maxRecDepth 20000 in
theorem ggX1_end_X1_next : GoodIn wsX1_end wsX1_next := goodIn_r _ [10, 6, 11, 12, 13, 4, 14, 15, 16, 17, 18, 19, 20, 21, 22, 23, 1, 2, 3, 5, 24, 25, 26, 27, 28, 29] (by decide +kernel) (by decide +kernel)
set_option maxRecDepth 20000 in
theorem gX1_end_X1_next : GoodIn wsX1_end (wsV RX1 36 RX1 yX1_next wsX1_next) := goodIn_app (goodIn_of _ (by decide +kernel)) ggX1_end_X1_next
theorem dX1_end_0 : decode cX1_end 0 = .ok (.iload_n 1, 1) := by decide +kernel
theorem dX1_end_1 : decode cX1_end 1 = .ok (.istore_n 2, 1) := by decide +kernel
theorem dX1_end_2 : decode cX1_end 2 = .ok (.aload_n 0, 1) := by decide +kernel
theorem dX1_end_3 : decode cX1_end 3 = .ok (.iload_n 2, 1) := by decide +kernel
theorem dX1_end_4 : decode cX1_end 4 = .ok (.invokevirtual 18, 3) := by decide +kernel
theorem dX1_end_7 : decode cX1_end 7 = .ok (.ifCond .eq 12, 3) := by decide +kernel
theorem dX1_end_10 : decode cX1_end 10 = .ok (.aload_n 0, 1) := by decide +kernel
theorem dX1_end_11 : decode cX1_end 11 = .ok (.iload_n 2, 1) := by decide +kernel
theorem dX1_end_12 : decode cX1_end 12 = .ok (.invokevirtual 36, 3) := by decide +kernel
theorem dX1_end_15 : decode cX1_end 15 = .ok (.istore_n 2, 1) := by decide +kernel
theorem dX1_end_16 : decode cX1_end 16 = .ok (.goto (-14), 3) := by decide +kernel
theorem dX1_end_19 : decode cX1_end 19 = .ok (.iload_n 2, 1) := by decide +kernel
theorem dX1_end_20 : decode cX1_end 20 = .ok (.ireturn, 1) := by decide +kernel
theorem dX1_at_0 : decode cX1_at 0 = .ok (.aload_n 0, 1) := by decide +kernel
theorem dX1_at_1 : decode cX1_at 1 = .ok (.getfield 15, 3) := by decide +kernel
theorem dX1_at_4 : decode cX1_at 4 = .ok (.iload_n 1, 1) := by decide +kernel
theorem dX1_at_5 : decode cX1_at 5 = .ok (.aaload, 1) := by decide +kernel
theorem dX1_at_6 : decode cX1_at 6 = .ok (.aload_n 0, 1) := by decide +kernel
theorem dX1_at_7 : decode cX1_at 7 = .ok (.getfield 15, 3) := by decide +kernel
theorem dX1_at_10 : decode cX1_at 10 = .ok (.iload_n 1, 1) := by decide +kernel
theorem dX1_at_11 : decode cX1_at 11 = .ok (.aaload, 1) := by decide +kernel
theorem dX1_at_12 : decode cX1_at 12 = .ok (.arraylength, 1) := by decide +kernel
theorem dX1_at_13 : decode cX1_at 13 = .ok (.iconst 1, 1) := by decide +kernel
theorem dX1_at_14 : decode cX1_at 14 = .ok (.isub, 1) := by decide +kernel
theorem dX1_at_15 : decode cX1_at 15 = .ok (.iaload, 1) := by decide +kernel
theorem dX1_at_16 : decode cX1_at 16 = .ok (.ireturn, 1) := by decide +kernel
set_option maxRecDepth 20000 in
theorem ggX1_regret_X1_hindsight : GoodIn wsX1_regret wsX1_hindsight := goodIn_r _ [7, 2, 8, 9, 10, 6, 11, 12, 13, 14, 15, 16, 17, 18, 19, 20, 25, 26] (by decide +kernel) (by decide +kernel)
set_option maxRecDepth 20000 in
theorem gX1_regret_X1_hindsight : GoodIn wsX1_regret (wsV RX1 40 RX1 yX1_hindsight wsX1_hindsight) := goodIn_app (goodIn_of _ (by decide +kernel)) ggX1_regret_X1_hindsight
set_option maxRecDepth 20000 in
theorem ggX1_regret_X1_at : GoodIn wsX1_regret wsX1_at := goodIn_r _ [24, 1, 25, 26] (by decide +kernel) (by decide +kernel)
set_option maxRecDepth 20000 in
theorem gX1_regret_X1_at : GoodIn wsX1_regret (wsV RX1 43 RX1 yX1_at wsX1_at) := goodIn_app (goodIn_of _ (by decide +kernel)) ggX1_regret_X1_at
theorem dX1_regret_0 : decode cX1_regret 0 = .ok (.aload_n 0, 1) := by decide +kernel
theorem dX1_regret_1 : decode cX1_regret 1 = .ok (.getfield 15, 3) := by decide +kernel
theorem dX1_regret_4 : decode cX1_regret 4 = .ok (.iload_n 1, 1) := by decide +kernel
theorem dX1_regret_5 : decode cX1_regret 5 = .ok (.aaload, 1) := by decide +kernel
theorem dX1_regret_6 : decode cX1_regret 6 = .ok (.iload_n 2, 1) := by decide +kernel
theorem dX1_regret_7 : decode cX1_regret 7 = .ok (.iaload, 1) := by decide +kernel
theorem dX1_regret_8 : decode cX1_regret 8 = .ok (.istore_n 3, 1) := by decide +kernel
theorem dX1_regret_9 : decode cX1_regret 9 = .ok (.aload_n 0, 1) := by decide +kernel
theorem dX1_regret_10 : decode cX1_regret 10 = .ok (.iload_n 3, 1) := by decide +kernel
theorem dX1_regret_11 : decode cX1_regret 11 = .ok (.invokevirtual 40, 3) := by decide +kernel
theorem dX1_regret_14 : decode cX1_regret 14 = .ok (.aload_n 0, 1) := by decide +kernel
theorem dX1_regret_15 : decode cX1_regret 15 = .ok (.getfield 9, 3) := by decide +kernel
theorem dX1_regret_18 : decode cX1_regret 18 = .ok (.aload_n 0, 1) := by decide +kernel
theorem dX1_regret_19 : decode cX1_regret 19 = .ok (.iload_n 1, 1) := by decide +kernel
theorem dX1_regret_20 : decode cX1_regret 20 = .ok (.invokevirtual 43, 3) := by decide +kernel
theorem dX1_regret_23 : decode cX1_regret 23 = .ok (.aaload, 1) := by decide +kernel
theorem dX1_regret_24 : decode cX1_regret 24 = .ok (.iconst 3, 1) := by decide +kernel
theorem dX1_regret_25 : decode cX1_regret 25 = .ok (.iaload, 1) := by decide +kernel
theorem dX1_regret_26 : decode cX1_regret 26 = .ok (.isub, 1) := by decide +kernel
theorem dX1_regret_27 : decode cX1_regret 27 = .ok (.istore 4, 2) := by decide +kernel
theorem dX1_regret_29 : decode cX1_regret 29 = .ok (.iload 4, 2) := by decide +kernel
theorem dX1_regret_31 : decode cX1_regret 31 = .ok (.ifCond .ge 7, 3) := by decide +kernel
theorem dX1_regret_34 : decode cX1_regret 34 = .ok (.iconst 0, 1) := by decide +kernel
theorem dX1_regret_35 : decode cX1_regret 35 = .ok (.goto 14, 3) := by decide +kernel
theorem dX1_regret_38 : decode cX1_regret 38 = .ok (.iload 4, 2) := by decide +kernel
theorem dX1_regret_40 : decode cX1_regret 40 = .ok (.aload_n 0, 1) := by decide +kernel
theorem dX1_regret_41 : decode cX1_regret 41 = .ok (.getfield 9, 3) := by decide +kernel
theorem dX1_regret_44 : decode cX1_regret 44 = .ok (.iload_n 3, 1) := by decide +kernel
theorem dX1_regret_45 : decode cX1_regret 45 = .ok (.aaload, 1) := by decide +kernel
theorem dX1_regret_46 : decode cX1_regret 46 = .ok (.iconst 3, 1) := by decide +kernel
theorem dX1_regret_47 : decode cX1_regret 47 = .ok (.iaload, 1) := by decide +kernel
theorem dX1_regret_48 : decode cX1_regret 48 = .ok (.imul, 1) := by decide +kernel
theorem dX1_regret_49 : decode cX1_regret 49 = .ok (.ireturn, 1) := by decide +kernel
set_option maxRecDepth 20000 in
theorem ggX1_regrets_X1_regret : GoodIn wsX1_regrets wsX1_regret := goodIn_r _ [6, 1, 7, 8, 9, 10, 5, 11, 12, 13, 14, 15, 16, 17, 18, 19, 20, 21, 22, 23, 24, 25, 26, 27, 28, 29, 30] (by decide +kernel) (by decide +kernel)
set_option maxRecDepth 20000 in
theorem gX1_regrets_X1_regret : GoodIn wsX1_regrets (wsV RX1 46 RX1 yX1_regret wsX1_regret) := goodIn_app (goodIn_of _ (by decide +kernel)) ggX1_regrets_X1_regret
theorem dX1_regrets_0 : decode cX1_regrets 0 = .ok (.iconst 0, 1) := by decide +kernel
theorem dX1_regrets_1 : decode cX1_regrets 1 = .ok (.istore_n 2, 1) := by decide +kernel
theorem dX1_regrets_2 : decode cX1_regrets 2 = .ok (.iconst 0, 1) := by decide +kernel
theorem dX1_regrets_3 : decode cX1_regrets 3 = .ok (.istore_n 3, 1) := by decide +kernel
theorem dX1_regrets_4 : decode cX1_regrets 4 = .ok (.iload_n 3, 1) := by decide +kernel
theorem dX1_regrets_5 : decode cX1_regrets 5 = .ok (.iconst 1, 1) := by decide +kernel
theorem dX1_regrets_6 : decode cX1_regrets 6 = .ok (.iadd, 1) := by decide +kernel
theorem dX1_regrets_7 : decode cX1_regrets 7 = .ok (.aload_n 0, 1) := by decide +kernel
theorem dX1_regrets_8 : decode cX1_regrets 8 = .ok (.getfield 15, 3) := by decide +kernel
theorem dX1_regrets_11 : decode cX1_regrets 11 = .ok (.iload_n 1, 1) := by decide +kernel
theorem dX1_regrets_12 : decode cX1_regrets 12 = .ok (.aaload, 1) := by decide +kernel
theorem dX1_regrets_13 : decode cX1_regrets 13 = .ok (.arraylength, 1) := by decide +kernel
theorem dX1_regrets_14 : decode cX1_regrets 14 = .ok (.if_icmp .ge 18, 3) := by decide +kernel
theorem dX1_regrets_17 : decode cX1_regrets 17 = .ok (.iload_n 2, 1) := by decide +kernel
theorem dX1_regrets_18 : decode cX1_regrets 18 = .ok (.aload_n 0, 1) := by decide +kernel
theorem dX1_regrets_19 : decode cX1_regrets 19 = .ok (.iload_n 1, 1) := by decide +kernel
theorem dX1_regrets_20 : decode cX1_regrets 20 = .ok (.iload_n 3, 1) := by decide +kernel
theorem dX1_regrets_21 : decode cX1_regrets 21 = .ok (.invokevirtual 46, 3) := by decide +kernel
theorem dX1_regrets_24 : decode cX1_regrets 24 = .ok (.iadd, 1) := by decide +kernel
theorem dX1_regrets_25 : decode cX1_regrets 25 = .ok (.istore_n 2, 1) := by decide +kernel
theorem dX1_regrets_26 : decode cX1_regrets 26 = .ok (.iinc 3 1, 3) := by decide +kernel
theorem dX1_regrets_29 : decode cX1_regrets 29 = .ok (.goto (-25), 3) := by decide +kernel
theorem dX1_regrets_32 : decode cX1_regrets 32 = .ok (.iload_n 2, 1) := by decide +kernel
theorem dX1_regrets_33 : decode cX1_regrets 33 = .ok (.ireturn, 1) := by decide +kernel
set_option maxRecDepth 20000 in
theorem ggX1_graded_X1_isGraded : GoodIn wsX1_graded wsX1_isGraded := goodIn_r _ [6, 1, 7, 8, 9, 5, 10, 11, 12] (by decide +kernel) (by decide +kernel)
set_option maxRecDepth 20000 in
theorem gX1_graded_X1_isGraded : GoodIn wsX1_graded (wsV RX1 26 RX1 yX1_isGraded wsX1_isGraded) := goodIn_app (goodIn_of _ (by decide +kernel)) ggX1_graded_X1_isGraded
theorem dX1_graded_0 : decode cX1_graded 0 = .ok (.iconst 0, 1) := by decide +kernel
theorem dX1_graded_1 : decode cX1_graded 1 = .ok (.istore_n 1, 1) := by decide +kernel
theorem dX1_graded_2 : decode cX1_graded 2 = .ok (.iconst 0, 1) := by decide +kernel
theorem dX1_graded_3 : decode cX1_graded 3 = .ok (.istore_n 2, 1) := by decide +kernel
theorem dX1_graded_4 : decode cX1_graded 4 = .ok (.iload_n 2, 1) := by decide +kernel
theorem dX1_graded_5 : decode cX1_graded 5 = .ok (.aload_n 0, 1) := by decide +kernel
theorem dX1_graded_6 : decode cX1_graded 6 = .ok (.getfield 9, 3) := by decide +kernel
theorem dX1_graded_9 : decode cX1_graded 9 = .ok (.arraylength, 1) := by decide +kernel
theorem dX1_graded_10 : decode cX1_graded 10 = .ok (.if_icmp .ge 25, 3) := by decide +kernel
theorem dX1_graded_13 : decode cX1_graded 13 = .ok (.iload_n 1, 1) := by decide +kernel
theorem dX1_graded_14 : decode cX1_graded 14 = .ok (.aload_n 0, 1) := by decide +kernel
theorem dX1_graded_15 : decode cX1_graded 15 = .ok (.iload_n 2, 1) := by decide +kernel
theorem dX1_graded_16 : decode cX1_graded 16 = .ok (.invokevirtual 26, 3) := by decide +kernel
theorem dX1_graded_19 : decode cX1_graded 19 = .ok (.ifCond .eq 7, 3) := by decide +kernel
theorem dX1_graded_22 : decode cX1_graded 22 = .ok (.iconst 1, 1) := by decide +kernel
theorem dX1_graded_23 : decode cX1_graded 23 = .ok (.goto 4, 3) := by decide +kernel
theorem dX1_graded_26 : decode cX1_graded 26 = .ok (.iconst 0, 1) := by decide +kernel
theorem dX1_graded_27 : decode cX1_graded 27 = .ok (.iadd, 1) := by decide +kernel
theorem dX1_graded_28 : decode cX1_graded 28 = .ok (.istore_n 1, 1) := by decide +kernel
theorem dX1_graded_29 : decode cX1_graded 29 = .ok (.iinc 2 1, 3) := by decide +kernel
theorem dX1_graded_32 : decode cX1_graded 32 = .ok (.goto (-28), 3) := by decide +kernel
theorem dX1_graded_35 : decode cX1_graded 35 = .ok (.iload_n 1, 1) := by decide +kernel
theorem dX1_graded_36 : decode cX1_graded 36 = .ok (.ireturn, 1) := by decide +kernel
set_option maxRecDepth 20000 in
theorem ggX1_isSame_X1_isFork : GoodIn wsX1_isSame wsX1_isFork := goodIn_r _ [11, 1, 236, 237] (by decide +kernel) (by decide +kernel)
set_option maxRecDepth 20000 in
theorem gX1_isSame_X1_isFork : GoodIn wsX1_isSame (wsV RX1 18 RX1 yX1_isFork wsX1_isFork) := goodIn_app (goodIn_of _ (by decide +kernel)) ggX1_isSame_X1_isFork
set_option maxRecDepth 20000 in
theorem ggX1_isSame_X1_isGraded : GoodIn wsX1_isSame wsX1_isGraded := goodIn_r _ [15, 1, 7, 8, 9, 10, 11, 236, 237] (by decide +kernel) (by decide +kernel)
set_option maxRecDepth 20000 in
theorem gX1_isSame_X1_isGraded : GoodIn wsX1_isSame (wsV RX1 26 RX1 yX1_isGraded wsX1_isGraded) := goodIn_app (goodIn_of _ (by decide +kernel)) ggX1_isSame_X1_isGraded
set_option maxRecDepth 20000 in
theorem ggX1_isSame_X0_isExam : GoodIn wsX1_isSame wsX0_isExam := goodIn_ca (goodIn_r _ [20, 21, 22, 23, 19, 24, 25, 26, 27, 28, 29, 30, 31, 32, 33, 34, 35, 238, 239, 240, 241, 242, 243, 244, 245, 246, 247, 248, 249, 250, 251, 252, 253, 254, 255] (by decide +kernel) (by decide +kernel)) (goodIn_sub (fun _ h => List.mem_cons_of_mem _ (List.mem_append_right _ h)) (by decide +kernel))
set_option maxRecDepth 20000 in
theorem gX1_isSame_X0_isExam : GoodIn wsX1_isSame (wsV RX1 50 RX0 yX0_isExam wsX0_isExam) := goodIn_app (goodIn_of _ (by decide +kernel)) ggX1_isSame_X0_isExam
set_option maxRecDepth 20000 in
theorem ggX1_isSame_X0_sureGrade : GoodIn wsX1_isSame wsX0_sureGrade := goodIn_ca (goodIn_r _ [39, 40, 21, 22, 23, 19, 24, 25, 26, 27, 41, 42, 43, 238, 239, 240, 241, 242, 243, 244, 245, 246, 247, 248, 249, 250, 251, 252, 253, 254, 255] (by decide +kernel) (by decide +kernel)) (goodIn_sub (fun _ h => List.mem_cons_of_mem _ (List.mem_append_right _ h)) (by decide +kernel))
set_option maxRecDepth 20000 in
theorem gX1_isSame_X0_sureGrade : GoodIn wsX1_isSame (wsV RX1 55 RX0 yX0_sureGrade wsX0_sureGrade) := goodIn_app (goodIn_of _ (by decide +kernel)) ggX1_isSame_X0_sureGrade
set_option maxRecDepth 20000 in
theorem ggX1_isSame_X1_best : GoodIn wsX1_isSame wsX1_best := goodIn_r _ [47, 1, 48, 49, 50, 10, 51, 52, 7, 8, 9, 11, 12, 13, 14, 15, 236, 237] (by decide +kernel) (by decide +kernel)
set_option maxRecDepth 20000 in
theorem gX1_isSame_X1_best : GoodIn wsX1_isSame (wsV RX1 29 RX1 yX1_best wsX1_best) := goodIn_app (goodIn_of _ (by decide +kernel)) ggX1_isSame_X1_best
set_option maxRecDepth 20000 in
theorem ggX1_isSame_X0_hope : GoodIn wsX1_isSame wsX0_hope := goodIn_ca (goodIn_r _ [56, 57, 21, 22, 23, 19, 24, 25, 26, 27, 41, 42, 43, 238, 239, 240, 241, 242, 243, 244, 245, 246, 247, 248, 249, 250, 251, 252, 253, 254, 255] (by decide +kernel) (by decide +kernel)) (goodIn_sub (fun _ h => List.mem_cons_of_mem _ (List.mem_append_right _ h)) (by decide +kernel))
set_option maxRecDepth 20000 in
theorem gX1_isSame_X0_hope : GoodIn wsX1_isSame (wsV RX1 58 RX0 yX0_hope wsX0_hope) := goodIn_app (goodIn_of _ (by decide +kernel)) ggX1_isSame_X0_hope
set_option maxRecDepth 20000 in
theorem ggX1_isSame_X0_examsFrom : GoodIn wsX1_isSame wsX0_examsFrom := goodIn_ca (goodIn_r _ [61, 62, 32, 21, 22, 23, 19, 24, 25, 26, 27, 63, 64, 65, 66, 67, 68, 69, 70, 71, 72, 238, 239, 240, 241, 242, 243, 244, 245, 246, 247, 248, 249, 250, 251, 252, 253, 254, 255] (by decide +kernel) (by decide +kernel)) (goodIn_sub (fun _ h => List.mem_cons_of_mem _ (List.mem_append_right _ h)) (by decide +kernel))
set_option maxRecDepth 20000 in
theorem gX1_isSame_X0_examsFrom : GoodIn wsX1_isSame (wsV RX1 61 RX0 yX0_examsFrom wsX0_examsFrom) := goodIn_app (goodIn_of _ (by decide +kernel)) ggX1_isSame_X0_examsFrom
set_option maxRecDepth 20000 in
theorem ggX1_isSame_X1_exams : GoodIn wsX1_isSame wsX1_exams := goodIn_r _ [76, 48, 49, 50, 10, 51, 1, 52, 7, 8, 9, 11, 236, 237] (by decide +kernel) (by decide +kernel)
set_option maxRecDepth 20000 in
theorem gX1_isSame_X1_exams : GoodIn wsX1_isSame (wsV RX1 64 RX1 yX1_exams wsX1_exams) := goodIn_app (goodIn_of _ (by decide +kernel)) ggX1_isSame_X1_exams
set_option maxRecDepth 20000 in
theorem ggX1_isSame_X0_planLeadsTo : GoodIn wsX1_isSame wsX0_planLeadsTo := goodIn_ca (goodIn_r _ [80, 21, 22, 23, 19, 24, 25, 26, 27, 28, 29, 30, 31, 32, 33, 34, 35, 81, 82, 83, 84, 85, 86, 87, 88, 40, 57, 89, 90, 4, 91, 92, 93, 94, 95, 96, 97, 98, 41, 42, 43, 238, 239, 240, 241, 242, 243, 244, 245, 246, 247, 248, 249, 250, 251, 252, 253, 254, 255] (by decide +kernel) (by decide +kernel)) (goodIn_sub (fun _ h => List.mem_cons_of_mem _ (List.mem_append_right _ h)) (by decide +kernel))
set_option maxRecDepth 20000 in
theorem gX1_isSame_X0_planLeadsTo : GoodIn wsX1_isSame (wsV RX1 67 RX0 yX0_planLeadsTo wsX0_planLeadsTo) := goodIn_app (goodIn_of _ (by decide +kernel)) ggX1_isSame_X0_planLeadsTo
set_option maxRecDepth 20000 in
theorem ggX1_isSame_X1_end : GoodIn wsX1_isSame wsX1_end := goodIn_r _ [102, 7, 8, 9, 10, 11, 1, 103, 104, 105, 106, 107, 108, 109, 110, 44, 45, 46, 47, 48, 49, 50, 51, 52, 12, 13, 14, 15, 236, 237] (by decide +kernel) (by decide +kernel)
set_option maxRecDepth 20000 in
theorem gX1_isSame_X1_end : GoodIn wsX1_isSame (wsV RX1 70 RX1 yX1_end wsX1_end) := goodIn_app (goodIn_of _ (by decide +kernel)) ggX1_isSame_X1_end
set_option maxRecDepth 20000 in
theorem ggX1_isSame_X0_isGraded : GoodIn wsX1_isSame wsX0_isGraded := goodIn_ca (goodIn_r _ [114, 115, 116, 117, 19, 118, 25, 26, 21, 22, 23, 24, 27, 28, 29, 30, 31, 32, 33, 34, 35, 119, 120, 121, 122, 123, 41, 42, 43, 238, 239, 240, 241, 242, 243, 244, 245, 246, 247, 248, 249, 250, 251, 252, 253, 254, 255] (by decide +kernel) (by decide +kernel)) (goodIn_sub (fun _ h => List.mem_cons_of_mem _ (List.mem_append_right _ h)) (by decide +kernel))
set_option maxRecDepth 20000 in
theorem gX1_isSame_X0_isGraded : GoodIn wsX1_isSame (wsV RX1 73 RX0 yX0_isGraded wsX0_isGraded) := goodIn_app (goodIn_of _ (by decide +kernel)) ggX1_isSame_X0_isGraded
set_option maxRecDepth 20000 in
theorem ggX1_isSame_X0_gradeOf : GoodIn wsX1_isSame wsX0_gradeOf := goodIn_ca (goodIn_r _ [127, 123, 115, 116, 117, 19, 118, 25, 26, 21, 22, 23, 24, 27, 28, 29, 30, 31, 32, 33, 34, 35, 41, 42, 43, 238, 239, 240, 241, 242, 243, 244, 245, 246, 247, 248, 249, 250, 251, 252, 253, 254, 255] (by decide +kernel) (by decide +kernel)) (goodIn_sub (fun _ h => List.mem_cons_of_mem _ (List.mem_append_right _ h)) (by decide +kernel))
set_option maxRecDepth 20000 in
theorem gX1_isSame_X0_gradeOf : GoodIn wsX1_isSame (wsV RX1 74 RX0 yX0_gradeOf wsX0_gradeOf) := goodIn_app (goodIn_of _ (by decide +kernel)) ggX1_isSame_X0_gradeOf
set_option maxRecDepth 20000 in
theorem ggX1_isSame_X0_leftOf : GoodIn wsX1_isSame wsX0_leftOf := goodIn_ca (goodIn_r _ [131, 98, 132, 133, 134, 19, 135, 25, 26, 21, 22, 23, 24, 27, 28, 29, 30, 31, 32, 33, 34, 35, 41, 42, 43, 238, 239, 240, 241, 242, 243, 244, 245, 246, 247, 248, 249, 250, 251, 252, 253, 254, 255] (by decide +kernel) (by decide +kernel)) (goodIn_sub (fun _ h => List.mem_cons_of_mem _ (List.mem_append_right _ h)) (by decide +kernel))
set_option maxRecDepth 20000 in
theorem gX1_isSame_X0_leftOf : GoodIn wsX1_isSame (wsV RX1 77 RX0 yX0_leftOf wsX0_leftOf) := goodIn_app (goodIn_of _ (by decide +kernel)) ggX1_isSame_X0_leftOf
set_option maxRecDepth 20000 in
theorem ggX1_isSame_X0_rightOf : GoodIn wsX1_isSame wsX0_rightOf := goodIn_ca (goodIn_r _ [139, 97, 132, 133, 134, 19, 135, 25, 26, 21, 22, 23, 24, 27, 28, 29, 30, 31, 32, 33, 34, 35, 41, 42, 43, 238, 239, 240, 241, 242, 243, 244, 245, 246, 247, 248, 249, 250, 251, 252, 253, 254, 255] (by decide +kernel) (by decide +kernel)) (goodIn_sub (fun _ h => List.mem_cons_of_mem _ (List.mem_append_right _ h)) (by decide +kernel))
set_option maxRecDepth 20000 in
theorem gX1_isSame_X0_rightOf : GoodIn wsX1_isSame (wsV RX1 80 RX0 yX0_rightOf wsX0_rightOf) := goodIn_app (goodIn_of _ (by decide +kernel)) ggX1_isSame_X0_rightOf
set_option maxRecDepth 20000 in
theorem ggX1_isSame_X0_weightOf : GoodIn wsX1_isSame wsX0_weightOf := goodIn_ca (goodIn_r _ [143, 92, 132, 133, 134, 19, 135, 25, 26, 21, 22, 23, 24, 27, 28, 29, 30, 31, 32, 33, 34, 35, 41, 42, 43, 238, 239, 240, 241, 242, 243, 244, 245, 246, 247, 248, 249, 250, 251, 252, 253, 254, 255] (by decide +kernel) (by decide +kernel)) (goodIn_sub (fun _ h => List.mem_cons_of_mem _ (List.mem_append_right _ h)) (by decide +kernel))
set_option maxRecDepth 20000 in
theorem gX1_isSame_X0_weightOf : GoodIn wsX1_isSame (wsV RX1 83 RX0 yX0_weightOf wsX0_weightOf) := goodIn_app (goodIn_of _ (by decide +kernel)) ggX1_isSame_X0_weightOf
set_option maxRecDepth 20000 in
theorem ggX1_isSame_X0_hindsight : GoodIn wsX1_isSame wsX0_hindsight := goodIn_ca (goodIn_r _ [147, 148, 132, 133, 134, 19, 135, 25, 26, 21, 22, 23, 24, 27, 28, 29, 30, 31, 32, 33, 34, 35, 41, 42, 43, 238, 239, 240, 241, 242, 243, 244, 245, 246, 247, 248, 249, 250, 251, 252, 253, 254, 255] (by decide +kernel) (by decide +kernel)) (goodIn_sub (fun _ h => List.mem_cons_of_mem _ (List.mem_append_right _ h)) (by decide +kernel))
set_option maxRecDepth 20000 in
theorem gX1_isSame_X0_hindsight : GoodIn wsX1_isSame (wsV RX1 86 RX0 yX0_hindsight wsX0_hindsight) := goodIn_app (goodIn_of _ (by decide +kernel)) ggX1_isSame_X0_hindsight
set_option maxRecDepth 20000 in
theorem ggX1_isSame_X1_hindsight : GoodIn wsX1_isSame wsX1_hindsight := goodIn_r _ [152, 1, 48, 49, 50, 10, 51, 52, 7, 8, 9, 11, 12, 13, 14, 15, 236, 237] (by decide +kernel) (by decide +kernel)
set_option maxRecDepth 20000 in
theorem gX1_isSame_X1_hindsight : GoodIn wsX1_isSame (wsV RX1 40 RX1 yX1_hindsight wsX1_hindsight) := goodIn_app (goodIn_of _ (by decide +kernel)) ggX1_isSame_X1_hindsight
set_option maxRecDepth 20000 in
theorem ggX1_isSame_X1_risk : GoodIn wsX1_isSame wsX1_risk := goodIn_r _ [110, 1, 44, 45, 46, 10, 47, 48, 49, 50, 51, 52, 7, 8, 9, 11, 12, 13, 14, 15, 236, 237] (by decide +kernel) (by decide +kernel)
set_option maxRecDepth 20000 in
theorem gX1_isSame_X1_risk : GoodIn wsX1_isSame (wsV RX1 33 RX1 yX1_risk wsX1_risk) := goodIn_app (goodIn_of _ (by decide +kernel)) ggX1_isSame_X1_risk
set_option maxRecDepth 20000 in
theorem ggX1_isSame_X1_at : GoodIn wsX1_isSame wsX1_at := goodIn_r _ [156, 6, 236, 237] (by decide +kernel) (by decide +kernel)
set_option maxRecDepth 20000 in
theorem gX1_isSame_X1_at : GoodIn wsX1_isSame (wsV RX1 43 RX1 yX1_at wsX1_at) := goodIn_app (goodIn_of _ (by decide +kernel)) ggX1_isSame_X1_at
set_option maxRecDepth 20000 in
theorem ggX1_isSame_X1_regrets : GoodIn wsX1_isSame wsX1_regrets := goodIn_r _ [160, 6, 161, 162, 163, 10, 164, 1, 149, 150, 151, 152, 48, 49, 50, 51, 52, 7, 8, 9, 11, 12, 13, 14, 15, 153, 154, 155, 156, 236, 237] (by decide +kernel) (by decide +kernel)
set_option maxRecDepth 20000 in
theorem gX1_isSame_X1_regrets : GoodIn wsX1_isSame (wsV RX1 92 RX1 yX1_regrets wsX1_regrets) := goodIn_app (goodIn_of _ (by decide +kernel)) ggX1_isSame_X1_regrets
set_option maxRecDepth 20000 in
theorem ggX1_isSame_X0_placeOf : GoodIn wsX1_isSame wsX0_placeOf := goodIn_ca (goodIn_r _ [168, 169, 170, 171, 172, 19, 173, 25, 26, 174, 41, 42, 43, 238, 239, 240, 241, 242, 243, 244, 245, 246, 247, 248, 249, 250, 251, 252, 253, 254, 255] (by decide +kernel) (by decide +kernel)) (goodIn_sub (fun _ h => List.mem_cons_of_mem _ (List.mem_append_right _ h)) (by decide +kernel))
set_option maxRecDepth 20000 in
theorem gX1_isSame_X0_placeOf : GoodIn wsX1_isSame (wsV RX1 95 RX0 yX0_placeOf wsX0_placeOf) := goodIn_app (goodIn_of _ (by decide +kernel)) ggX1_isSame_X0_placeOf
set_option maxRecDepth 20000 in
theorem ggX1_isSame_X0_passedBy : GoodIn wsX1_isSame wsX0_passedBy := goodIn_ca (goodIn_r _ [178, 179, 170, 171, 172, 19, 173, 25, 26, 174, 41, 42, 43, 238, 239, 240, 241, 242, 243, 244, 245, 246, 247, 248, 249, 250, 251, 252, 253, 254, 255] (by decide +kernel) (by decide +kernel)) (goodIn_sub (fun _ h => List.mem_cons_of_mem _ (List.mem_append_right _ h)) (by decide +kernel))
set_option maxRecDepth 20000 in
theorem gX1_isSame_X0_passedBy : GoodIn wsX1_isSame (wsV RX1 98 RX0 yX0_passedBy wsX0_passedBy) := goodIn_app (goodIn_of _ (by decide +kernel)) ggX1_isSame_X0_passedBy
set_option maxRecDepth 20000 in
theorem ggX1_isSame_X0_places : GoodIn wsX1_isSame wsX0_places := goodIn_r _ [183, 27, 238, 239, 240, 241, 242, 243, 244, 245, 246, 247, 248, 249, 250, 251, 252, 253, 254, 255] (by decide +kernel) (by decide +kernel)
set_option maxRecDepth 20000 in
theorem gX1_isSame_X0_places : GoodIn wsX1_isSame (wsV RX1 101 RX0 yX0_places wsX0_places) := goodIn_app (goodIn_of _ (by decide +kernel)) ggX1_isSame_X0_places
set_option maxRecDepth 20000 in
theorem ggX1_isSame_X0_exams : GoodIn wsX1_isSame wsX0_exams := goodIn_r _ [187, 32, 66, 67, 68, 69, 70, 71, 72, 238, 239, 240, 241, 242, 243, 244, 245, 246, 247, 248, 249, 250, 251, 252, 253, 254, 255] (by decide +kernel) (by decide +kernel)
set_option maxRecDepth 20000 in
theorem gX1_isSame_X0_exams : GoodIn wsX1_isSame (wsV RX1 104 RX0 yX0_exams wsX0_exams) := goodIn_app (goodIn_of _ (by decide +kernel)) ggX1_isSame_X0_exams
set_option maxRecDepth 20000 in
theorem ggX1_isSame_X0_graded : GoodIn wsX1_isSame wsX0_graded := goodIn_r _ [191, 192, 238, 239, 240, 241, 242, 243, 244, 245, 246, 247, 248, 249, 250, 251, 252, 253, 254, 255] (by decide +kernel) (by decide +kernel)
set_option maxRecDepth 20000 in
theorem gX1_isSame_X0_graded : GoodIn wsX1_isSame (wsV RX1 106 RX0 yX0_graded wsX0_graded) := goodIn_app (goodIn_of _ (by decide +kernel)) ggX1_isSame_X0_graded
set_option maxRecDepth 20000 in
theorem ggX1_isSame_X1_graded : GoodIn wsX1_isSame wsX1_graded := goodIn_r _ [196, 1, 12, 13, 14, 10, 15, 7, 8, 9, 11, 236, 237] (by decide +kernel) (by decide +kernel)
set_option maxRecDepth 20000 in
theorem gX1_isSame_X1_graded : GoodIn wsX1_isSame (wsV RX1 109 RX1 yX1_graded wsX1_graded) := goodIn_app (goodIn_of _ (by decide +kernel)) ggX1_isSame_X1_graded
set_option maxRecDepth 20000 in
theorem ggX1_isSame_X0_students : GoodIn wsX1_isSame wsX0_students := goodIn_r _ [200, 174, 238, 239, 240, 241, 242, 243, 244, 245, 246, 247, 248, 249, 250, 251, 252, 253, 254, 255] (by decide +kernel) (by decide +kernel)
set_option maxRecDepth 20000 in
theorem gX1_isSame_X0_students : GoodIn wsX1_isSame (wsV RX1 110 RX0 yX0_students wsX0_students) := goodIn_app (goodIn_of _ (by decide +kernel)) ggX1_isSame_X0_students
set_option maxRecDepth 20000 in
theorem ggX1_isSame_X0_atExams : GoodIn wsX1_isSame wsX0_atExams := goodIn_r _ [204, 174, 169, 41, 42, 19, 43, 28, 29, 30, 31, 32, 33, 34, 35, 238, 239, 240, 241, 242, 243, 244, 245, 246, 247, 248, 249, 250, 251, 252, 253, 254, 255] (by decide +kernel) (by decide +kernel)
set_option maxRecDepth 20000 in
theorem gX1_isSame_X0_atExams : GoodIn wsX1_isSame (wsV RX1 112 RX0 yX0_atExams wsX0_atExams) := goodIn_app (goodIn_of _ (by decide +kernel)) ggX1_isSame_X0_atExams
set_option maxRecDepth 20000 in
theorem ggX1_isSame_X0_riskiestFork : GoodIn wsX1_isSame wsX0_riskiestFork := goodIn_r _ [208, 27, 28, 29, 30, 19, 31, 32, 33, 34, 35, 209, 210, 211, 212, 213, 3, 4, 5, 85, 86, 87, 88, 40, 57, 89, 90, 91, 92, 93, 94, 95, 96, 97, 98, 41, 42, 43, 238, 239, 240, 241, 242, 243, 244, 245, 246, 247, 248, 249, 250, 251, 252, 253, 254, 255] (by decide +kernel) (by decide +kernel)
set_option maxRecDepth 20000 in
theorem gX1_isSame_X0_riskiestFork : GoodIn wsX1_isSame (wsV RX1 115 RX0 yX0_riskiestFork wsX0_riskiestFork) := goodIn_app (goodIn_of _ (by decide +kernel)) ggX1_isSame_X0_riskiestFork
set_option maxRecDepth 20000 in
theorem ggX1_isSame_X0_allRegret : GoodIn wsX1_isSame wsX0_allRegret := goodIn_r _ [217, 174, 169, 41, 42, 19, 43, 119, 120, 121, 122, 123, 218, 219, 220, 221, 179, 222, 223, 224, 225, 148, 89, 90, 4, 91, 92, 226, 227, 228, 229, 230, 238, 239, 240, 241, 242, 243, 244, 245, 246, 247, 248, 249, 250, 251, 252, 253, 254, 255] (by decide +kernel) (by decide +kernel)
set_option maxRecDepth 20000 in
theorem gX1_isSame_X0_allRegret : GoodIn wsX1_isSame (wsV RX1 118 RX0 yX0_allRegret wsX0_allRegret) := goodIn_app (goodIn_of _ (by decide +kernel)) ggX1_isSame_X0_allRegret
set_option maxRecDepth 20000 in
theorem ggX1_isSame_X0_meanGrade : GoodIn wsX1_isSame wsX0_meanGrade := goodIn_r _ [234, 192, 235, 238, 239, 240, 241, 242, 243, 244, 245, 246, 247, 248, 249, 250, 251, 252, 253, 254, 255] (by decide +kernel) (by decide +kernel)
set_option maxRecDepth 20000 in
theorem gX1_isSame_X0_meanGrade : GoodIn wsX1_isSame (wsV RX1 121 RX0 yX0_meanGrade wsX0_meanGrade) := goodIn_app (goodIn_of _ (by decide +kernel)) ggX1_isSame_X0_meanGrade
theorem dX1_isSame_0 : decode cX1_isSame 0 = .ok (.iconst 0, 1) := by decide +kernel
theorem dX1_isSame_1 : decode cX1_isSame 1 = .ok (.istore_n 2, 1) := by decide +kernel
theorem dX1_isSame_2 : decode cX1_isSame 2 = .ok (.iconst 0, 1) := by decide +kernel
theorem dX1_isSame_3 : decode cX1_isSame 3 = .ok (.istore_n 3, 1) := by decide +kernel
theorem dX1_isSame_4 : decode cX1_isSame 4 = .ok (.iconst 0, 1) := by decide +kernel
theorem dX1_isSame_5 : decode cX1_isSame 5 = .ok (.istore 4, 2) := by decide +kernel
theorem dX1_isSame_7 : decode cX1_isSame 7 = .ok (.iconst 0, 1) := by decide +kernel
theorem dX1_isSame_8 : decode cX1_isSame 8 = .ok (.istore 5, 2) := by decide +kernel
theorem dX1_isSame_10 : decode cX1_isSame 10 = .ok (.iconst (-1), 1) := by decide +kernel
theorem dX1_isSame_11 : decode cX1_isSame 11 = .ok (.istore 6, 2) := by decide +kernel
theorem dX1_isSame_13 : decode cX1_isSame 13 = .ok (.iconst (-1), 1) := by decide +kernel
theorem dX1_isSame_14 : decode cX1_isSame 14 = .ok (.istore 7, 2) := by decide +kernel
theorem dX1_isSame_16 : decode cX1_isSame 16 = .ok (.aload_n 0, 1) := by decide +kernel
theorem dX1_isSame_17 : decode cX1_isSame 17 = .ok (.getfield 9, 3) := by decide +kernel
theorem dX1_isSame_20 : decode cX1_isSame 20 = .ok (.arraylength, 1) := by decide +kernel
theorem dX1_isSame_21 : decode cX1_isSame 21 = .ok (.iconst 1, 1) := by decide +kernel
theorem dX1_isSame_22 : decode cX1_isSame 22 = .ok (.isub, 1) := by decide +kernel
theorem dX1_isSame_23 : decode cX1_isSame 23 = .ok (.istore 8, 2) := by decide +kernel
theorem dX1_isSame_25 : decode cX1_isSame 25 = .ok (.iload 8, 2) := by decide +kernel
theorem dX1_isSame_27 : decode cX1_isSame 27 = .ok (.ifCond .lt 276, 3) := by decide +kernel
theorem dX1_isSame_30 : decode cX1_isSame 30 = .ok (.aload_n 0, 1) := by decide +kernel
theorem dX1_isSame_31 : decode cX1_isSame 31 = .ok (.getfield 9, 3) := by decide +kernel
theorem dX1_isSame_34 : decode cX1_isSame 34 = .ok (.iload 8, 2) := by decide +kernel
theorem dX1_isSame_36 : decode cX1_isSame 36 = .ok (.aaload, 1) := by decide +kernel
theorem dX1_isSame_37 : decode cX1_isSame 37 = .ok (.astore 9, 2) := by decide +kernel
theorem dX1_isSame_39 : decode cX1_isSame 39 = .ok (.aload_n 0, 1) := by decide +kernel
theorem dX1_isSame_40 : decode cX1_isSame 40 = .ok (.iload 8, 2) := by decide +kernel
theorem dX1_isSame_42 : decode cX1_isSame 42 = .ok (.invokevirtual 18, 3) := by decide +kernel
theorem dX1_isSame_45 : decode cX1_isSame 45 = .ok (.istore 10, 2) := by decide +kernel
theorem dX1_isSame_47 : decode cX1_isSame 47 = .ok (.iload_n 2, 1) := by decide +kernel
theorem dX1_isSame_48 : decode cX1_isSame 48 = .ok (.iload 10, 2) := by decide +kernel
theorem dX1_isSame_50 : decode cX1_isSame 50 = .ok (.ifCond .eq 7, 3) := by decide +kernel
theorem dX1_isSame_53 : decode cX1_isSame 53 = .ok (.iconst 0, 1) := by decide +kernel
theorem dX1_isSame_54 : decode cX1_isSame 54 = .ok (.goto 4, 3) := by decide +kernel
theorem dX1_isSame_57 : decode cX1_isSame 57 = .ok (.iconst 1, 1) := by decide +kernel
theorem dX1_isSame_58 : decode cX1_isSame 58 = .ok (.iadd, 1) := by decide +kernel
theorem dX1_isSame_59 : decode cX1_isSame 59 = .ok (.istore_n 2, 1) := by decide +kernel
theorem dX1_isSame_60 : decode cX1_isSame 60 = .ok (.iload_n 3, 1) := by decide +kernel
theorem dX1_isSame_61 : decode cX1_isSame 61 = .ok (.aload_n 0, 1) := by decide +kernel
theorem dX1_isSame_62 : decode cX1_isSame 62 = .ok (.iload 8, 2) := by decide +kernel
theorem dX1_isSame_64 : decode cX1_isSame 64 = .ok (.invokevirtual 26, 3) := by decide +kernel
theorem dX1_isSame_67 : decode cX1_isSame 67 = .ok (.ifCond .eq 10, 3) := by decide +kernel
theorem dX1_isSame_70 : decode cX1_isSame 70 = .ok (.aload 9, 2) := by decide +kernel
theorem dX1_isSame_72 : decode cX1_isSame 72 = .ok (.iconst 3, 1) := by decide +kernel
theorem dX1_isSame_73 : decode cX1_isSame 73 = .ok (.iaload, 1) := by decide +kernel
theorem dX1_isSame_74 : decode cX1_isSame 74 = .ok (.goto 4, 3) := by decide +kernel
theorem dX1_isSame_77 : decode cX1_isSame 77 = .ok (.iconst 0, 1) := by decide +kernel
theorem dX1_isSame_78 : decode cX1_isSame 78 = .ok (.iadd, 1) := by decide +kernel
theorem dX1_isSame_79 : decode cX1_isSame 79 = .ok (.istore_n 3, 1) := by decide +kernel
theorem dX1_isSame_80 : decode cX1_isSame 80 = .ok (.aload_n 1, 1) := by decide +kernel
theorem dX1_isSame_81 : decode cX1_isSame 81 = .ok (.iload 8, 2) := by decide +kernel
theorem dX1_isSame_83 : decode cX1_isSame 83 = .ok (.invokevirtual 50, 3) := by decide +kernel
theorem dX1_isSame_86 : decode cX1_isSame 86 = .ok (.iload 10, 2) := by decide +kernel
theorem dX1_isSame_88 : decode cX1_isSame 88 = .ok (.if_icmp .eq 65, 3) := by decide +kernel
theorem dX1_isSame_91 : decode cX1_isSame 91 = .ok (.aload_n 1, 1) := by decide +kernel
theorem dX1_isSame_92 : decode cX1_isSame 92 = .ok (.iload 8, 2) := by decide +kernel
theorem dX1_isSame_94 : decode cX1_isSame 94 = .ok (.invokevirtual 55, 3) := by decide +kernel
theorem dX1_isSame_97 : decode cX1_isSame 97 = .ok (.aload_n 0, 1) := by decide +kernel
theorem dX1_isSame_98 : decode cX1_isSame 98 = .ok (.iload 8, 2) := by decide +kernel
theorem dX1_isSame_100 : decode cX1_isSame 100 = .ok (.iconst 0, 1) := by decide +kernel
theorem dX1_isSame_101 : decode cX1_isSame 101 = .ok (.invokevirtual 29, 3) := by decide +kernel
theorem dX1_isSame_104 : decode cX1_isSame 104 = .ok (.if_icmp .ne 49, 3) := by decide +kernel
theorem dX1_isSame_107 : decode cX1_isSame 107 = .ok (.aload_n 1, 1) := by decide +kernel
theorem dX1_isSame_108 : decode cX1_isSame 108 = .ok (.iload 8, 2) := by decide +kernel
theorem dX1_isSame_110 : decode cX1_isSame 110 = .ok (.invokevirtual 58, 3) := by decide +kernel
theorem dX1_isSame_113 : decode cX1_isSame 113 = .ok (.aload_n 0, 1) := by decide +kernel
theorem dX1_isSame_114 : decode cX1_isSame 114 = .ok (.iload 8, 2) := by decide +kernel
theorem dX1_isSame_116 : decode cX1_isSame 116 = .ok (.iconst 1, 1) := by decide +kernel
theorem dX1_isSame_117 : decode cX1_isSame 117 = .ok (.invokevirtual 29, 3) := by decide +kernel
theorem dX1_isSame_120 : decode cX1_isSame 120 = .ok (.if_icmp .ne 33, 3) := by decide +kernel
theorem dX1_isSame_123 : decode cX1_isSame 123 = .ok (.aload_n 1, 1) := by decide +kernel
theorem dX1_isSame_124 : decode cX1_isSame 124 = .ok (.iload 8, 2) := by decide +kernel
theorem dX1_isSame_126 : decode cX1_isSame 126 = .ok (.invokevirtual 61, 3) := by decide +kernel
theorem dX1_isSame_129 : decode cX1_isSame 129 = .ok (.aload_n 0, 1) := by decide +kernel
theorem dX1_isSame_130 : decode cX1_isSame 130 = .ok (.iload 8, 2) := by decide +kernel
theorem dX1_isSame_132 : decode cX1_isSame 132 = .ok (.invokevirtual 64, 3) := by decide +kernel
theorem dX1_isSame_135 : decode cX1_isSame 135 = .ok (.if_icmp .ne 18, 3) := by decide +kernel
theorem dX1_isSame_138 : decode cX1_isSame 138 = .ok (.aload_n 1, 1) := by decide +kernel
theorem dX1_isSame_139 : decode cX1_isSame 139 = .ok (.iload 8, 2) := by decide +kernel
theorem dX1_isSame_141 : decode cX1_isSame 141 = .ok (.invokevirtual 67, 3) := by decide +kernel
theorem dX1_isSame_144 : decode cX1_isSame 144 = .ok (.aload_n 0, 1) := by decide +kernel
theorem dX1_isSame_145 : decode cX1_isSame 145 = .ok (.iload 8, 2) := by decide +kernel
theorem dX1_isSame_147 : decode cX1_isSame 147 = .ok (.invokevirtual 70, 3) := by decide +kernel
theorem dX1_isSame_150 : decode cX1_isSame 150 = .ok (.if_icmp .eq 5, 3) := by decide +kernel
theorem dX1_isSame_153 : decode cX1_isSame 153 = .ok (.iconst 0, 1) := by decide +kernel
theorem dX1_isSame_154 : decode cX1_isSame 154 = .ok (.ireturn, 1) := by decide +kernel
theorem dX1_isSame_155 : decode cX1_isSame 155 = .ok (.iload 10, 2) := by decide +kernel
theorem dX1_isSame_157 : decode cX1_isSame 157 = .ok (.ifCond .ne 39, 3) := by decide +kernel
theorem dX1_isSame_160 : decode cX1_isSame 160 = .ok (.aload_n 1, 1) := by decide +kernel
theorem dX1_isSame_161 : decode cX1_isSame 161 = .ok (.iload 8, 2) := by decide +kernel
theorem dX1_isSame_163 : decode cX1_isSame 163 = .ok (.invokevirtual 73, 3) := by decide +kernel
theorem dX1_isSame_166 : decode cX1_isSame 166 = .ok (.aload 9, 2) := by decide +kernel
theorem dX1_isSame_168 : decode cX1_isSame 168 = .ok (.iconst 3, 1) := by decide +kernel
theorem dX1_isSame_169 : decode cX1_isSame 169 = .ok (.iaload, 1) := by decide +kernel
theorem dX1_isSame_170 : decode cX1_isSame 170 = .ok (.ifCond .lt 7, 3) := by decide +kernel
theorem dX1_isSame_173 : decode cX1_isSame 173 = .ok (.iconst 1, 1) := by decide +kernel
theorem dX1_isSame_174 : decode cX1_isSame 174 = .ok (.goto 4, 3) := by decide +kernel
theorem dX1_isSame_177 : decode cX1_isSame 177 = .ok (.iconst 0, 1) := by decide +kernel
theorem dX1_isSame_178 : decode cX1_isSame 178 = .ok (.if_icmp .ne 16, 3) := by decide +kernel
theorem dX1_isSame_181 : decode cX1_isSame 181 = .ok (.aload_n 1, 1) := by decide +kernel
theorem dX1_isSame_182 : decode cX1_isSame 182 = .ok (.iload 8, 2) := by decide +kernel
theorem dX1_isSame_184 : decode cX1_isSame 184 = .ok (.invokevirtual 74, 3) := by decide +kernel
theorem dX1_isSame_187 : decode cX1_isSame 187 = .ok (.aload 9, 2) := by decide +kernel
theorem dX1_isSame_189 : decode cX1_isSame 189 = .ok (.iconst 3, 1) := by decide +kernel
theorem dX1_isSame_190 : decode cX1_isSame 190 = .ok (.iaload, 1) := by decide +kernel
theorem dX1_isSame_191 : decode cX1_isSame 191 = .ok (.if_icmp .eq 5, 3) := by decide +kernel
theorem dX1_isSame_194 : decode cX1_isSame 194 = .ok (.iconst 0, 1) := by decide +kernel
theorem dX1_isSame_195 : decode cX1_isSame 195 = .ok (.ireturn, 1) := by decide +kernel
theorem dX1_isSame_196 : decode cX1_isSame 196 = .ok (.iload 10, 2) := by decide +kernel
theorem dX1_isSame_198 : decode cX1_isSame 198 = .ok (.ifCond .ne 6, 3) := by decide +kernel
theorem dX1_isSame_201 : decode cX1_isSame 201 = .ok (.goto 96, 3) := by decide +kernel
theorem dX1_isSame_204 : decode cX1_isSame 204 = .ok (.aload_n 1, 1) := by decide +kernel
theorem dX1_isSame_205 : decode cX1_isSame 205 = .ok (.iload 8, 2) := by decide +kernel
theorem dX1_isSame_207 : decode cX1_isSame 207 = .ok (.invokevirtual 77, 3) := by decide +kernel
theorem dX1_isSame_210 : decode cX1_isSame 210 = .ok (.aload 9, 2) := by decide +kernel
theorem dX1_isSame_212 : decode cX1_isSame 212 = .ok (.iconst 1, 1) := by decide +kernel
theorem dX1_isSame_213 : decode cX1_isSame 213 = .ok (.iaload, 1) := by decide +kernel
theorem dX1_isSame_214 : decode cX1_isSame 214 = .ok (.if_icmp .ne 44, 3) := by decide +kernel
theorem dX1_isSame_217 : decode cX1_isSame 217 = .ok (.aload_n 1, 1) := by decide +kernel
theorem dX1_isSame_218 : decode cX1_isSame 218 = .ok (.iload 8, 2) := by decide +kernel
theorem dX1_isSame_220 : decode cX1_isSame 220 = .ok (.invokevirtual 80, 3) := by decide +kernel
theorem dX1_isSame_223 : decode cX1_isSame 223 = .ok (.aload 9, 2) := by decide +kernel
theorem dX1_isSame_225 : decode cX1_isSame 225 = .ok (.iconst 2, 1) := by decide +kernel
theorem dX1_isSame_226 : decode cX1_isSame 226 = .ok (.iaload, 1) := by decide +kernel
theorem dX1_isSame_227 : decode cX1_isSame 227 = .ok (.if_icmp .ne 31, 3) := by decide +kernel
theorem dX1_isSame_230 : decode cX1_isSame 230 = .ok (.aload_n 1, 1) := by decide +kernel
theorem dX1_isSame_231 : decode cX1_isSame 231 = .ok (.iload 8, 2) := by decide +kernel
theorem dX1_isSame_233 : decode cX1_isSame 233 = .ok (.invokevirtual 83, 3) := by decide +kernel
theorem dX1_isSame_236 : decode cX1_isSame 236 = .ok (.aload 9, 2) := by decide +kernel
theorem dX1_isSame_238 : decode cX1_isSame 238 = .ok (.iconst 3, 1) := by decide +kernel
theorem dX1_isSame_239 : decode cX1_isSame 239 = .ok (.iaload, 1) := by decide +kernel
theorem dX1_isSame_240 : decode cX1_isSame 240 = .ok (.if_icmp .ne 18, 3) := by decide +kernel
theorem dX1_isSame_243 : decode cX1_isSame 243 = .ok (.aload_n 1, 1) := by decide +kernel
theorem dX1_isSame_244 : decode cX1_isSame 244 = .ok (.iload 8, 2) := by decide +kernel
theorem dX1_isSame_246 : decode cX1_isSame 246 = .ok (.invokevirtual 86, 3) := by decide +kernel
theorem dX1_isSame_249 : decode cX1_isSame 249 = .ok (.aload_n 0, 1) := by decide +kernel
theorem dX1_isSame_250 : decode cX1_isSame 250 = .ok (.iload 8, 2) := by decide +kernel
theorem dX1_isSame_252 : decode cX1_isSame 252 = .ok (.invokevirtual 40, 3) := by decide +kernel
theorem dX1_isSame_255 : decode cX1_isSame 255 = .ok (.if_icmp .eq 5, 3) := by decide +kernel
theorem dX1_isSame_258 : decode cX1_isSame 258 = .ok (.iconst 0, 1) := by decide +kernel
theorem dX1_isSame_259 : decode cX1_isSame 259 = .ok (.ireturn, 1) := by decide +kernel
theorem dX1_isSame_260 : decode cX1_isSame 260 = .ok (.aload_n 0, 1) := by decide +kernel
theorem dX1_isSame_261 : decode cX1_isSame 261 = .ok (.iload 8, 2) := by decide +kernel
theorem dX1_isSame_263 : decode cX1_isSame 263 = .ok (.iconst 0, 1) := by decide +kernel
theorem dX1_isSame_264 : decode cX1_isSame 264 = .ok (.invokevirtual 33, 3) := by decide +kernel
theorem dX1_isSame_267 : decode cX1_isSame 267 = .ok (.aload_n 0, 1) := by decide +kernel
theorem dX1_isSame_268 : decode cX1_isSame 268 = .ok (.iload 8, 2) := by decide +kernel
theorem dX1_isSame_270 : decode cX1_isSame 270 = .ok (.iconst 1, 1) := by decide +kernel
theorem dX1_isSame_271 : decode cX1_isSame 271 = .ok (.invokevirtual 33, 3) := by decide +kernel
theorem dX1_isSame_274 : decode cX1_isSame 274 = .ok (.invokestatic 87, 3) := by decide +kernel
theorem dX1_isSame_277 : decode cX1_isSame 277 = .ok (.istore 11, 2) := by decide +kernel
theorem dX1_isSame_279 : decode cX1_isSame 279 = .ok (.iload 11, 2) := by decide +kernel
theorem dX1_isSame_281 : decode cX1_isSame 281 = .ok (.iload 7, 2) := by decide +kernel
theorem dX1_isSame_283 : decode cX1_isSame 283 = .ok (.if_icmp .ge 6, 3) := by decide +kernel
theorem dX1_isSame_286 : decode cX1_isSame 286 = .ok (.goto 11, 3) := by decide +kernel
theorem dX1_isSame_289 : decode cX1_isSame 289 = .ok (.iload 8, 2) := by decide +kernel
theorem dX1_isSame_291 : decode cX1_isSame 291 = .ok (.istore 6, 2) := by decide +kernel
theorem dX1_isSame_293 : decode cX1_isSame 293 = .ok (.iload 11, 2) := by decide +kernel
theorem dX1_isSame_295 : decode cX1_isSame 295 = .ok (.istore 7, 2) := by decide +kernel
theorem dX1_isSame_297 : decode cX1_isSame 297 = .ok (.iinc 8 (-1), 3) := by decide +kernel
theorem dX1_isSame_300 : decode cX1_isSame 300 = .ok (.goto (-275), 3) := by decide +kernel
theorem dX1_isSame_303 : decode cX1_isSame 303 = .ok (.iconst 0, 1) := by decide +kernel
theorem dX1_isSame_304 : decode cX1_isSame 304 = .ok (.istore 8, 2) := by decide +kernel
theorem dX1_isSame_306 : decode cX1_isSame 306 = .ok (.iload 8, 2) := by decide +kernel
theorem dX1_isSame_308 : decode cX1_isSame 308 = .ok (.aload_n 0, 1) := by decide +kernel
theorem dX1_isSame_309 : decode cX1_isSame 309 = .ok (.getfield 15, 3) := by decide +kernel
theorem dX1_isSame_312 : decode cX1_isSame 312 = .ok (.arraylength, 1) := by decide +kernel
theorem dX1_isSame_313 : decode cX1_isSame 313 = .ok (.if_icmp .ge 96, 3) := by decide +kernel
theorem dX1_isSame_316 : decode cX1_isSame 316 = .ok (.iload 4, 2) := by decide +kernel
theorem dX1_isSame_318 : decode cX1_isSame 318 = .ok (.aload_n 0, 1) := by decide +kernel
theorem dX1_isSame_319 : decode cX1_isSame 319 = .ok (.aload_n 0, 1) := by decide +kernel
theorem dX1_isSame_320 : decode cX1_isSame 320 = .ok (.iload 8, 2) := by decide +kernel
theorem dX1_isSame_322 : decode cX1_isSame 322 = .ok (.invokevirtual 43, 3) := by decide +kernel
theorem dX1_isSame_325 : decode cX1_isSame 325 = .ok (.invokevirtual 18, 3) := by decide +kernel
theorem dX1_isSame_328 : decode cX1_isSame 328 = .ok (.ifCond .eq 7, 3) := by decide +kernel
theorem dX1_isSame_331 : decode cX1_isSame 331 = .ok (.iconst 0, 1) := by decide +kernel
theorem dX1_isSame_332 : decode cX1_isSame 332 = .ok (.goto 4, 3) := by decide +kernel
theorem dX1_isSame_335 : decode cX1_isSame 335 = .ok (.iconst 1, 1) := by decide +kernel
theorem dX1_isSame_336 : decode cX1_isSame 336 = .ok (.iadd, 1) := by decide +kernel
theorem dX1_isSame_337 : decode cX1_isSame 337 = .ok (.istore 4, 2) := by decide +kernel
theorem dX1_isSame_339 : decode cX1_isSame 339 = .ok (.iload 5, 2) := by decide +kernel
theorem dX1_isSame_341 : decode cX1_isSame 341 = .ok (.aload_n 0, 1) := by decide +kernel
theorem dX1_isSame_342 : decode cX1_isSame 342 = .ok (.aload_n 0, 1) := by decide +kernel
theorem dX1_isSame_343 : decode cX1_isSame 343 = .ok (.iload 8, 2) := by decide +kernel
theorem dX1_isSame_345 : decode cX1_isSame 345 = .ok (.invokevirtual 43, 3) := by decide +kernel
theorem dX1_isSame_348 : decode cX1_isSame 348 = .ok (.invokevirtual 26, 3) := by decide +kernel
theorem dX1_isSame_351 : decode cX1_isSame 351 = .ok (.ifCond .eq 12, 3) := by decide +kernel
theorem dX1_isSame_354 : decode cX1_isSame 354 = .ok (.aload_n 0, 1) := by decide +kernel
theorem dX1_isSame_355 : decode cX1_isSame 355 = .ok (.iload 8, 2) := by decide +kernel
theorem dX1_isSame_357 : decode cX1_isSame 357 = .ok (.invokevirtual 92, 3) := by decide +kernel
theorem dX1_isSame_360 : decode cX1_isSame 360 = .ok (.goto 4, 3) := by decide +kernel
theorem dX1_isSame_363 : decode cX1_isSame 363 = .ok (.iconst 0, 1) := by decide +kernel
theorem dX1_isSame_364 : decode cX1_isSame 364 = .ok (.iadd, 1) := by decide +kernel
theorem dX1_isSame_365 : decode cX1_isSame 365 = .ok (.istore 5, 2) := by decide +kernel
theorem dX1_isSame_367 : decode cX1_isSame 367 = .ok (.aload_n 1, 1) := by decide +kernel
theorem dX1_isSame_368 : decode cX1_isSame 368 = .ok (.iload 8, 2) := by decide +kernel
theorem dX1_isSame_370 : decode cX1_isSame 370 = .ok (.invokevirtual 95, 3) := by decide +kernel
theorem dX1_isSame_373 : decode cX1_isSame 373 = .ok (.aload_n 0, 1) := by decide +kernel
theorem dX1_isSame_374 : decode cX1_isSame 374 = .ok (.iload 8, 2) := by decide +kernel
theorem dX1_isSame_376 : decode cX1_isSame 376 = .ok (.invokevirtual 43, 3) := by decide +kernel
theorem dX1_isSame_379 : decode cX1_isSame 379 = .ok (.if_icmp .ne 22, 3) := by decide +kernel
theorem dX1_isSame_382 : decode cX1_isSame 382 = .ok (.aload_n 1, 1) := by decide +kernel
theorem dX1_isSame_383 : decode cX1_isSame 383 = .ok (.iload 8, 2) := by decide +kernel
theorem dX1_isSame_385 : decode cX1_isSame 385 = .ok (.invokevirtual 98, 3) := by decide +kernel
theorem dX1_isSame_388 : decode cX1_isSame 388 = .ok (.aload_n 0, 1) := by decide +kernel
theorem dX1_isSame_389 : decode cX1_isSame 389 = .ok (.getfield 15, 3) := by decide +kernel
theorem dX1_isSame_392 : decode cX1_isSame 392 = .ok (.iload 8, 2) := by decide +kernel
theorem dX1_isSame_394 : decode cX1_isSame 394 = .ok (.aaload, 1) := by decide +kernel
theorem dX1_isSame_395 : decode cX1_isSame 395 = .ok (.arraylength, 1) := by decide +kernel
theorem dX1_isSame_396 : decode cX1_isSame 396 = .ok (.iconst 1, 1) := by decide +kernel
theorem dX1_isSame_397 : decode cX1_isSame 397 = .ok (.isub, 1) := by decide +kernel
theorem dX1_isSame_398 : decode cX1_isSame 398 = .ok (.if_icmp .eq 5, 3) := by decide +kernel
theorem dX1_isSame_401 : decode cX1_isSame 401 = .ok (.iconst 0, 1) := by decide +kernel
theorem dX1_isSame_402 : decode cX1_isSame 402 = .ok (.ireturn, 1) := by decide +kernel
theorem dX1_isSame_403 : decode cX1_isSame 403 = .ok (.iinc 8 1, 3) := by decide +kernel
theorem dX1_isSame_406 : decode cX1_isSame 406 = .ok (.goto (-100), 3) := by decide +kernel
theorem dX1_isSame_409 : decode cX1_isSame 409 = .ok (.aload_n 1, 1) := by decide +kernel
theorem dX1_isSame_410 : decode cX1_isSame 410 = .ok (.invokevirtual 101, 3) := by decide +kernel
theorem dX1_isSame_413 : decode cX1_isSame 413 = .ok (.aload_n 0, 1) := by decide +kernel
theorem dX1_isSame_414 : decode cX1_isSame 414 = .ok (.getfield 9, 3) := by decide +kernel
theorem dX1_isSame_417 : decode cX1_isSame 417 = .ok (.arraylength, 1) := by decide +kernel
theorem dX1_isSame_418 : decode cX1_isSame 418 = .ok (.if_icmp .ne 92, 3) := by decide +kernel
theorem dX1_isSame_421 : decode cX1_isSame 421 = .ok (.aload_n 1, 1) := by decide +kernel
theorem dX1_isSame_422 : decode cX1_isSame 422 = .ok (.invokevirtual 104, 3) := by decide +kernel
theorem dX1_isSame_425 : decode cX1_isSame 425 = .ok (.iload_n 2, 1) := by decide +kernel
theorem dX1_isSame_426 : decode cX1_isSame 426 = .ok (.if_icmp .ne 84, 3) := by decide +kernel
theorem dX1_isSame_429 : decode cX1_isSame 429 = .ok (.aload_n 1, 1) := by decide +kernel
theorem dX1_isSame_430 : decode cX1_isSame 430 = .ok (.invokevirtual 106, 3) := by decide +kernel
theorem dX1_isSame_433 : decode cX1_isSame 433 = .ok (.aload_n 0, 1) := by decide +kernel
theorem dX1_isSame_434 : decode cX1_isSame 434 = .ok (.invokevirtual 109, 3) := by decide +kernel
theorem dX1_isSame_437 : decode cX1_isSame 437 = .ok (.if_icmp .ne 73, 3) := by decide +kernel
theorem dX1_isSame_440 : decode cX1_isSame 440 = .ok (.aload_n 1, 1) := by decide +kernel
theorem dX1_isSame_441 : decode cX1_isSame 441 = .ok (.invokevirtual 110, 3) := by decide +kernel
theorem dX1_isSame_444 : decode cX1_isSame 444 = .ok (.aload_n 0, 1) := by decide +kernel
theorem dX1_isSame_445 : decode cX1_isSame 445 = .ok (.getfield 15, 3) := by decide +kernel
theorem dX1_isSame_448 : decode cX1_isSame 448 = .ok (.arraylength, 1) := by decide +kernel
theorem dX1_isSame_449 : decode cX1_isSame 449 = .ok (.if_icmp .ne 61, 3) := by decide +kernel
theorem dX1_isSame_452 : decode cX1_isSame 452 = .ok (.aload_n 1, 1) := by decide +kernel
theorem dX1_isSame_453 : decode cX1_isSame 453 = .ok (.invokevirtual 112, 3) := by decide +kernel
theorem dX1_isSame_456 : decode cX1_isSame 456 = .ok (.iload 4, 2) := by decide +kernel
theorem dX1_isSame_458 : decode cX1_isSame 458 = .ok (.if_icmp .ne 52, 3) := by decide +kernel
theorem dX1_isSame_461 : decode cX1_isSame 461 = .ok (.aload_n 1, 1) := by decide +kernel
theorem dX1_isSame_462 : decode cX1_isSame 462 = .ok (.invokevirtual 115, 3) := by decide +kernel
theorem dX1_isSame_465 : decode cX1_isSame 465 = .ok (.iload 6, 2) := by decide +kernel
theorem dX1_isSame_467 : decode cX1_isSame 467 = .ok (.if_icmp .ne 43, 3) := by decide +kernel
theorem dX1_isSame_470 : decode cX1_isSame 470 = .ok (.aload_n 1, 1) := by decide +kernel
theorem dX1_isSame_471 : decode cX1_isSame 471 = .ok (.invokevirtual 118, 3) := by decide +kernel
theorem dX1_isSame_474 : decode cX1_isSame 474 = .ok (.iload 5, 2) := by decide +kernel
theorem dX1_isSame_476 : decode cX1_isSame 476 = .ok (.if_icmp .ne 34, 3) := by decide +kernel
theorem dX1_isSame_479 : decode cX1_isSame 479 = .ok (.aload_n 1, 1) := by decide +kernel
theorem dX1_isSame_480 : decode cX1_isSame 480 = .ok (.invokevirtual 121, 3) := by decide +kernel
theorem dX1_isSame_483 : decode cX1_isSame 483 = .ok (.aload_n 0, 1) := by decide +kernel
theorem dX1_isSame_484 : decode cX1_isSame 484 = .ok (.invokevirtual 109, 3) := by decide +kernel
theorem dX1_isSame_487 : decode cX1_isSame 487 = .ok (.ifCond .ne 7, 3) := by decide +kernel
theorem dX1_isSame_490 : decode cX1_isSame 490 = .ok (.dconst 0, 1) := by decide +kernel
theorem dX1_isSame_491 : decode cX1_isSame 491 = .ok (.goto 11, 3) := by decide +kernel
theorem dX1_isSame_494 : decode cX1_isSame 494 = .ok (.iload_n 3, 1) := by decide +kernel
theorem dX1_isSame_495 : decode cX1_isSame 495 = .ok (.i2d, 1) := by decide +kernel
theorem dX1_isSame_496 : decode cX1_isSame 496 = .ok (.aload_n 0, 1) := by decide +kernel
theorem dX1_isSame_497 : decode cX1_isSame 497 = .ok (.invokevirtual 109, 3) := by decide +kernel
theorem dX1_isSame_500 : decode cX1_isSame 500 = .ok (.i2d, 1) := by decide +kernel
theorem dX1_isSame_501 : decode cX1_isSame 501 = .ok (.ddiv, 1) := by decide +kernel
theorem dX1_isSame_502 : decode cX1_isSame 502 = .ok (.dcmp .l, 1) := by decide +kernel
theorem dX1_isSame_503 : decode cX1_isSame 503 = .ok (.ifCond .ne 7, 3) := by decide +kernel
theorem dX1_isSame_506 : decode cX1_isSame 506 = .ok (.iconst 1, 1) := by decide +kernel
theorem dX1_isSame_507 : decode cX1_isSame 507 = .ok (.goto 4, 3) := by decide +kernel
theorem dX1_isSame_510 : decode cX1_isSame 510 = .ok (.iconst 0, 1) := by decide +kernel
theorem dX1_isSame_511 : decode cX1_isSame 511 = .ok (.ireturn, 1) := by decide +kernel

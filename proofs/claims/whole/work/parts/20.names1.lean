theorem dX1_init_0 : decode cX1_init 0 = .ok (.aload_n 0, 1) := by decide +kernel
theorem dX1_init_1 : decode cX1_init 1 = .ok (.invokespecial 1, 3) := by decide +kernel
theorem dX1_init_4 : decode cX1_init 4 = .ok (.aload_n 0, 1) := by decide +kernel
theorem dX1_init_5 : decode cX1_init 5 = .ok (.bipush 40, 2) := by decide +kernel
theorem dX1_init_7 : decode cX1_init 7 = .ok (.newarray .boolean, 2) := by decide +kernel
theorem dX1_init_9 : decode cX1_init 9 = .ok (.putfield 9, 3) := by decide +kernel
theorem dX1_init_12 : decode cX1_init 12 = .ok (.aload_n 0, 1) := by decide +kernel
theorem dX1_init_13 : decode cX1_init 13 = .ok (.bipush 40, 2) := by decide +kernel
theorem dX1_init_15 : decode cX1_init 15 = .ok (.newarray .int, 2) := by decide +kernel
theorem dX1_init_17 : decode cX1_init 17 = .ok (.putfield 13, 3) := by decide +kernel
theorem dX1_init_20 : decode cX1_init 20 = .ok (.aload_n 0, 1) := by decide +kernel
theorem dX1_init_21 : decode cX1_init 21 = .ok (.bipush 40, 2) := by decide +kernel
theorem dX1_init_23 : decode cX1_init 23 = .ok (.newarray .int, 2) := by decide +kernel
theorem dX1_init_25 : decode cX1_init 25 = .ok (.putfield 17, 3) := by decide +kernel
theorem dX1_init_28 : decode cX1_init 28 = .ok (.aload_n 0, 1) := by decide +kernel
theorem dX1_init_29 : decode cX1_init 29 = .ok (.bipush 40, 2) := by decide +kernel
theorem dX1_init_31 : decode cX1_init 31 = .ok (.newarray .int, 2) := by decide +kernel
theorem dX1_init_33 : decode cX1_init 33 = .ok (.putfield 20, 3) := by decide +kernel
theorem dX1_init_36 : decode cX1_init 36 = .ok (.aload_n 0, 1) := by decide +kernel
theorem dX1_init_37 : decode cX1_init 37 = .ok (.bipush 40, 2) := by decide +kernel
theorem dX1_init_39 : decode cX1_init 39 = .ok (.newarray .long, 2) := by decide +kernel
theorem dX1_init_41 : decode cX1_init 41 = .ok (.putfield 23, 3) := by decide +kernel
theorem dX1_init_44 : decode cX1_init 44 = .ok (.aload_n 0, 1) := by decide +kernel
theorem dX1_init_45 : decode cX1_init 45 = .ok (.bipush 40, 2) := by decide +kernel
theorem dX1_init_47 : decode cX1_init 47 = .ok (.newarray .int, 2) := by decide +kernel
theorem dX1_init_49 : decode cX1_init 49 = .ok (.putfield 27, 3) := by decide +kernel
theorem dX1_init_52 : decode cX1_init 52 = .ok (.aload_n 0, 1) := by decide +kernel
theorem dX1_init_53 : decode cX1_init 53 = .ok (.bipush 40, 2) := by decide +kernel
theorem dX1_init_55 : decode cX1_init 55 = .ok (.newarray .int, 2) := by decide +kernel
theorem dX1_init_57 : decode cX1_init 57 = .ok (.putfield 30, 3) := by decide +kernel
theorem dX1_init_60 : decode cX1_init 60 = .ok (.aload_n 0, 1) := by decide +kernel
theorem dX1_init_61 : decode cX1_init 61 = .ok (.bipush 8, 2) := by decide +kernel
theorem dX1_init_63 : decode cX1_init 63 = .ok (.newarray .int, 2) := by decide +kernel
theorem dX1_init_65 : decode cX1_init 65 = .ok (.putfield 33, 3) := by decide +kernel
theorem dX1_init_68 : decode cX1_init 68 = .ok (.aload_n 0, 1) := by decide +kernel
theorem dX1_init_69 : decode cX1_init 69 = .ok (.bipush 8, 2) := by decide +kernel
theorem dX1_init_71 : decode cX1_init 71 = .ok (.newarray .int, 2) := by decide +kernel
theorem dX1_init_73 : decode cX1_init 73 = .ok (.putfield 36, 3) := by decide +kernel
theorem dX1_init_76 : decode cX1_init 76 = .ok (.aload_n 0, 1) := by decide +kernel
theorem dX1_init_77 : decode cX1_init 77 = .ok (.sipush 320, 3) := by decide +kernel
theorem dX1_init_80 : decode cX1_init 80 = .ok (.newarray .int, 2) := by decide +kernel
theorem dX1_init_82 : decode cX1_init 82 = .ok (.putfield 39, 3) := by decide +kernel
theorem dX1_init_85 : decode cX1_init 85 = .ok (.return_, 1) := by decide +kernel
theorem dX1_thrown_0 : decode cX1_thrown 0 = .ok (.aload_n 0, 1) := by decide +kernel
theorem dX1_thrown_1 : decode cX1_thrown 1 = .ok (.getfield 42, 3) := by decide +kernel
theorem dX1_thrown_4 : decode cX1_thrown 4 = .ok (.ireturn, 1) := by decide +kernel
theorem dX1_no_0 : decode cX1_no 0 = .ok (.aload_n 0, 1) := by decide +kernel
theorem dX1_no_1 : decode cX1_no 1 = .ok (.iload_n 1, 1) := by decide +kernel
theorem dX1_no_2 : decode cX1_no 2 = .ok (.putfield 42, 3) := by decide +kernel
theorem dX1_no_5 : decode cX1_no 5 = .ok (.iconst 0, 1) := by decide +kernel
theorem dX1_no_6 : decode cX1_no 6 = .ok (.ireturn, 1) := by decide +kernel
theorem dX1_isNot_0 : decode cX1_isNot 0 = .ok (.aload_n 0, 1) := by decide +kernel
theorem dX1_isNot_1 : decode cX1_isNot 1 = .ok (.iload_n 1, 1) := by decide +kernel
theorem dX1_isNot_2 : decode cX1_isNot 2 = .ok (.putfield 42, 3) := by decide +kernel
theorem dX1_isNot_5 : decode cX1_isNot 5 = .ok (.iconst 0, 1) := by decide +kernel
theorem dX1_isNot_6 : decode cX1_isNot 6 = .ok (.ireturn, 1) := by decide +kernel
theorem dX1_ok_0 : decode cX1_ok 0 = .ok (.aload_n 0, 1) := by decide +kernel
theorem dX1_ok_1 : decode cX1_ok 1 = .ok (.iconst 0, 1) := by decide +kernel
theorem dX1_ok_2 : decode cX1_ok 2 = .ok (.putfield 42, 3) := by decide +kernel
theorem dX1_ok_5 : decode cX1_ok 5 = .ok (.iload_n 1, 1) := by decide +kernel
theorem dX1_ok_6 : decode cX1_ok 6 = .ok (.ireturn, 1) := by decide +kernel
theorem dX1_isIn_0 : decode cX1_isIn 0 = .ok (.iload_n 0, 1) := by decide +kernel
theorem dX1_isIn_1 : decode cX1_isIn 1 = .ok (.iload_n 1, 1) := by decide +kernel
theorem dX1_isIn_2 : decode cX1_isIn 2 = .ok (.if_icmp .lt 12, 3) := by decide +kernel
theorem dX1_isIn_5 : decode cX1_isIn 5 = .ok (.iload_n 0, 1) := by decide +kernel
theorem dX1_isIn_6 : decode cX1_isIn 6 = .ok (.iload_n 2, 1) := by decide +kernel
theorem dX1_isIn_7 : decode cX1_isIn 7 = .ok (.if_icmp .gt 7, 3) := by decide +kernel
theorem dX1_isIn_10 : decode cX1_isIn 10 = .ok (.iconst 1, 1) := by decide +kernel
theorem dX1_isIn_11 : decode cX1_isIn 11 = .ok (.goto 4, 3) := by decide +kernel
theorem dX1_isIn_14 : decode cX1_isIn 14 = .ok (.iconst 0, 1) := by decide +kernel
theorem dX1_isIn_15 : decode cX1_isIn 15 = .ok (.ireturn, 1) := by decide +kernel
set_option maxRecDepth 20000 in
theorem ggX1_isPlace_X1_isIn : GoodIn wsX1_isPlace wsX1_isIn := goodIn_r _ [5] (by decide +kernel) (by decide +kernel)
set_option maxRecDepth 20000 in
theorem gX1_isPlace_X1_isIn : GoodIn wsX1_isPlace (va_wsS RX1 49 yX1_isIn wsX1_isIn) := goodIn_app (goodIn_of _ (by decide +kernel)) ggX1_isPlace_X1_isIn
theorem dX1_isPlace_0 : decode cX1_isPlace 0 = .ok (.iload_n 1, 1) := by decide +kernel
theorem dX1_isPlace_1 : decode cX1_isPlace 1 = .ok (.iconst 0, 1) := by decide +kernel
theorem dX1_isPlace_2 : decode cX1_isPlace 2 = .ok (.aload_n 0, 1) := by decide +kernel
theorem dX1_isPlace_3 : decode cX1_isPlace 3 = .ok (.getfield 46, 3) := by decide +kernel
theorem dX1_isPlace_6 : decode cX1_isPlace 6 = .ok (.iconst 1, 1) := by decide +kernel
theorem dX1_isPlace_7 : decode cX1_isPlace 7 = .ok (.isub, 1) := by decide +kernel
theorem dX1_isPlace_8 : decode cX1_isPlace 8 = .ok (.invokestatic 49, 3) := by decide +kernel
theorem dX1_isPlace_11 : decode cX1_isPlace 11 = .ok (.ireturn, 1) := by decide +kernel
set_option maxRecDepth 20000 in
theorem ggX1_isExamAt_X1_isPlace : GoodIn wsX1_isExamAt wsX1_isPlace := goodIn_r _ [6, 7, 8, 9, 5, 10, 11, 12, 13, 14, 15, 16, 17, 18, 19, 20, 21, 22, 23] (by decide +kernel) (by decide +kernel)
set_option maxRecDepth 20000 in
theorem gX1_isExamAt_X1_isPlace : GoodIn wsX1_isExamAt (wsV RX1 53 RX1 yX1_isPlace wsX1_isPlace) := goodIn_app (goodIn_of _ (by decide +kernel)) ggX1_isExamAt_X1_isPlace
theorem dX1_isExamAt_0 : decode cX1_isExamAt 0 = .ok (.aload_n 0, 1) := by decide +kernel
theorem dX1_isExamAt_1 : decode cX1_isExamAt 1 = .ok (.iload_n 1, 1) := by decide +kernel
theorem dX1_isExamAt_2 : decode cX1_isExamAt 2 = .ok (.invokevirtual 53, 3) := by decide +kernel
theorem dX1_isExamAt_5 : decode cX1_isExamAt 5 = .ok (.ifCond .eq 16, 3) := by decide +kernel
theorem dX1_isExamAt_8 : decode cX1_isExamAt 8 = .ok (.aload_n 0, 1) := by decide +kernel
theorem dX1_isExamAt_9 : decode cX1_isExamAt 9 = .ok (.getfield 9, 3) := by decide +kernel
theorem dX1_isExamAt_12 : decode cX1_isExamAt 12 = .ok (.iload_n 1, 1) := by decide +kernel
theorem dX1_isExamAt_13 : decode cX1_isExamAt 13 = .ok (.baload, 1) := by decide +kernel
theorem dX1_isExamAt_14 : decode cX1_isExamAt 14 = .ok (.ifCond .ne 7, 3) := by decide +kernel
theorem dX1_isExamAt_17 : decode cX1_isExamAt 17 = .ok (.iconst 1, 1) := by decide +kernel
theorem dX1_isExamAt_18 : decode cX1_isExamAt 18 = .ok (.goto 4, 3) := by decide +kernel
theorem dX1_isExamAt_21 : decode cX1_isExamAt 21 = .ok (.iconst 0, 1) := by decide +kernel
theorem dX1_isExamAt_22 : decode cX1_isExamAt 22 = .ok (.ireturn, 1) := by decide +kernel
set_option maxRecDepth 20000 in
theorem ggX1_isForkAt_X1_isPlace : GoodIn wsX1_isForkAt wsX1_isPlace := goodIn_r _ [6, 7, 8, 9, 5, 10, 11, 12, 13, 14, 15, 16, 17, 18, 19, 20, 21, 22, 23] (by decide +kernel) (by decide +kernel)
set_option maxRecDepth 20000 in
theorem gX1_isForkAt_X1_isPlace : GoodIn wsX1_isForkAt (wsV RX1 53 RX1 yX1_isPlace wsX1_isPlace) := goodIn_app (goodIn_of _ (by decide +kernel)) ggX1_isForkAt_X1_isPlace
theorem dX1_isForkAt_0 : decode cX1_isForkAt 0 = .ok (.aload_n 0, 1) := by decide +kernel
theorem dX1_isForkAt_1 : decode cX1_isForkAt 1 = .ok (.iload_n 1, 1) := by decide +kernel
theorem dX1_isForkAt_2 : decode cX1_isForkAt 2 = .ok (.invokevirtual 53, 3) := by decide +kernel
theorem dX1_isForkAt_5 : decode cX1_isForkAt 5 = .ok (.ifCond .eq 16, 3) := by decide +kernel
theorem dX1_isForkAt_8 : decode cX1_isForkAt 8 = .ok (.aload_n 0, 1) := by decide +kernel
theorem dX1_isForkAt_9 : decode cX1_isForkAt 9 = .ok (.getfield 9, 3) := by decide +kernel
theorem dX1_isForkAt_12 : decode cX1_isForkAt 12 = .ok (.iload_n 1, 1) := by decide +kernel
theorem dX1_isForkAt_13 : decode cX1_isForkAt 13 = .ok (.baload, 1) := by decide +kernel
theorem dX1_isForkAt_14 : decode cX1_isForkAt 14 = .ok (.ifCond .eq 7, 3) := by decide +kernel
theorem dX1_isForkAt_17 : decode cX1_isForkAt 17 = .ok (.iconst 1, 1) := by decide +kernel
theorem dX1_isForkAt_18 : decode cX1_isForkAt 18 = .ok (.goto 4, 3) := by decide +kernel
theorem dX1_isForkAt_21 : decode cX1_isForkAt 21 = .ok (.iconst 0, 1) := by decide +kernel
theorem dX1_isForkAt_22 : decode cX1_isForkAt 22 = .ok (.ireturn, 1) := by decide +kernel
set_option maxRecDepth 20000 in
theorem ggX1_isStudent_X1_isIn : GoodIn wsX1_isStudent wsX1_isIn := goodIn_r _ [5] (by decide +kernel) (by decide +kernel)
set_option maxRecDepth 20000 in
theorem gX1_isStudent_X1_isIn : GoodIn wsX1_isStudent (va_wsS RX1 49 yX1_isIn wsX1_isIn) := goodIn_app (goodIn_of _ (by decide +kernel)) ggX1_isStudent_X1_isIn
theorem dX1_isStudent_0 : decode cX1_isStudent 0 = .ok (.iload_n 1, 1) := by decide +kernel
theorem dX1_isStudent_1 : decode cX1_isStudent 1 = .ok (.iconst 0, 1) := by decide +kernel
theorem dX1_isStudent_2 : decode cX1_isStudent 2 = .ok (.aload_n 0, 1) := by decide +kernel
theorem dX1_isStudent_3 : decode cX1_isStudent 3 = .ok (.getfield 57, 3) := by decide +kernel
theorem dX1_isStudent_6 : decode cX1_isStudent 6 = .ok (.iconst 1, 1) := by decide +kernel
theorem dX1_isStudent_7 : decode cX1_isStudent 7 = .ok (.isub, 1) := by decide +kernel
theorem dX1_isStudent_8 : decode cX1_isStudent 8 = .ok (.invokestatic 49, 3) := by decide +kernel
theorem dX1_isStudent_11 : decode cX1_isStudent 11 = .ok (.ireturn, 1) := by decide +kernel
theorem dX1_has_0 : decode cX1_has 0 = .ok (.aload_n 0, 1) := by decide +kernel
theorem dX1_has_1 : decode cX1_has 1 = .ok (.getfield 23, 3) := by decide +kernel
theorem dX1_has_4 : decode cX1_has 4 = .ok (.iload_n 1, 1) := by decide +kernel
theorem dX1_has_5 : decode cX1_has 5 = .ok (.laload, 1) := by decide +kernel
theorem dX1_has_6 : decode cX1_has 6 = .ok (.iload_n 2, 1) := by decide +kernel
theorem dX1_has_7 : decode cX1_has 7 = .ok (.lshr, 1) := by decide +kernel
theorem dX1_has_8 : decode cX1_has 8 = .ok (.lconst 1, 1) := by decide +kernel
theorem dX1_has_9 : decode cX1_has 9 = .ok (.land, 1) := by decide +kernel
theorem dX1_has_10 : decode cX1_has 10 = .ok (.lconst 1, 1) := by decide +kernel
theorem dX1_has_11 : decode cX1_has 11 = .ok (.lcmp, 1) := by decide +kernel
theorem dX1_has_12 : decode cX1_has 12 = .ok (.ifCond .ne 7, 3) := by decide +kernel
theorem dX1_has_15 : decode cX1_has 15 = .ok (.iconst 1, 1) := by decide +kernel
theorem dX1_has_16 : decode cX1_has 16 = .ok (.goto 4, 3) := by decide +kernel
theorem dX1_has_19 : decode cX1_has 19 = .ok (.iconst 0, 1) := by decide +kernel
theorem dX1_has_20 : decode cX1_has 20 = .ok (.ireturn, 1) := by decide +kernel
theorem dX1_table_0 : decode cX1_table 0 = .ok (.iconst 0, 1) := by decide +kernel
theorem dX1_table_1 : decode cX1_table 1 = .ok (.istore_n 1, 1) := by decide +kernel
theorem dX1_table_2 : decode cX1_table 2 = .ok (.iload_n 1, 1) := by decide +kernel
theorem dX1_table_3 : decode cX1_table 3 = .ok (.aload_n 0, 1) := by decide +kernel
theorem dX1_table_4 : decode cX1_table 4 = .ok (.getfield 46, 3) := by decide +kernel
theorem dX1_table_7 : decode cX1_table 7 = .ok (.if_icmp .ge 158, 3) := by decide +kernel
theorem dX1_table_10 : decode cX1_table 10 = .ok (.aload_n 0, 1) := by decide +kernel
theorem dX1_table_11 : decode cX1_table 11 = .ok (.getfield 9, 3) := by decide +kernel
theorem dX1_table_14 : decode cX1_table 14 = .ok (.iload_n 1, 1) := by decide +kernel
theorem dX1_table_15 : decode cX1_table 15 = .ok (.baload, 1) := by decide +kernel
theorem dX1_table_16 : decode cX1_table 16 = .ok (.ifCond .ne 17, 3) := by decide +kernel
theorem dX1_table_19 : decode cX1_table 19 = .ok (.aload_n 0, 1) := by decide +kernel
theorem dX1_table_20 : decode cX1_table 20 = .ok (.getfield 20, 3) := by decide +kernel
theorem dX1_table_23 : decode cX1_table 23 = .ok (.iload_n 1, 1) := by decide +kernel
theorem dX1_table_24 : decode cX1_table 24 = .ok (.iaload, 1) := by decide +kernel
theorem dX1_table_25 : decode cX1_table 25 = .ok (.iconst (-1), 1) := by decide +kernel
theorem dX1_table_26 : decode cX1_table 26 = .ok (.if_icmp .eq 7, 3) := by decide +kernel
theorem dX1_table_29 : decode cX1_table 29 = .ok (.iconst 1, 1) := by decide +kernel
theorem dX1_table_30 : decode cX1_table 30 = .ok (.goto 4, 3) := by decide +kernel
theorem dX1_table_33 : decode cX1_table 33 = .ok (.iconst 0, 1) := by decide +kernel
theorem dX1_table_34 : decode cX1_table 34 = .ok (.istore_n 2, 1) := by decide +kernel
theorem dX1_table_35 : decode cX1_table 35 = .ok (.aload_n 0, 1) := by decide +kernel
theorem dX1_table_36 : decode cX1_table 36 = .ok (.getfield 27, 3) := by decide +kernel
theorem dX1_table_39 : decode cX1_table 39 = .ok (.iload_n 1, 1) := by decide +kernel
theorem dX1_table_40 : decode cX1_table 40 = .ok (.aload_n 0, 1) := by decide +kernel
theorem dX1_table_41 : decode cX1_table 41 = .ok (.getfield 9, 3) := by decide +kernel
theorem dX1_table_44 : decode cX1_table 44 = .ok (.iload_n 1, 1) := by decide +kernel
theorem dX1_table_45 : decode cX1_table 45 = .ok (.baload, 1) := by decide +kernel
theorem dX1_table_46 : decode cX1_table 46 = .ok (.ifCond .eq 31, 3) := by decide +kernel
theorem dX1_table_49 : decode cX1_table 49 = .ok (.aload_n 0, 1) := by decide +kernel
theorem dX1_table_50 : decode cX1_table 50 = .ok (.getfield 27, 3) := by decide +kernel
theorem dX1_table_53 : decode cX1_table 53 = .ok (.aload_n 0, 1) := by decide +kernel
theorem dX1_table_54 : decode cX1_table 54 = .ok (.getfield 13, 3) := by decide +kernel
theorem dX1_table_57 : decode cX1_table 57 = .ok (.iload_n 1, 1) := by decide +kernel
theorem dX1_table_58 : decode cX1_table 58 = .ok (.iaload, 1) := by decide +kernel
theorem dX1_table_59 : decode cX1_table 59 = .ok (.iaload, 1) := by decide +kernel
theorem dX1_table_60 : decode cX1_table 60 = .ok (.aload_n 0, 1) := by decide +kernel
theorem dX1_table_61 : decode cX1_table 61 = .ok (.getfield 27, 3) := by decide +kernel
theorem dX1_table_64 : decode cX1_table 64 = .ok (.aload_n 0, 1) := by decide +kernel
theorem dX1_table_65 : decode cX1_table 65 = .ok (.getfield 17, 3) := by decide +kernel
theorem dX1_table_68 : decode cX1_table 68 = .ok (.iload_n 1, 1) := by decide +kernel
theorem dX1_table_69 : decode cX1_table 69 = .ok (.iaload, 1) := by decide +kernel
theorem dX1_table_70 : decode cX1_table 70 = .ok (.iaload, 1) := by decide +kernel
theorem dX1_table_71 : decode cX1_table 71 = .ok (.invokestatic 60, 3) := by decide +kernel
theorem dX1_table_74 : decode cX1_table 74 = .ok (.goto 22, 3) := by decide +kernel
theorem dX1_table_77 : decode cX1_table 77 = .ok (.iload_n 2, 1) := by decide +kernel
theorem dX1_table_78 : decode cX1_table 78 = .ok (.ifCond .eq 12, 3) := by decide +kernel
theorem dX1_table_81 : decode cX1_table 81 = .ok (.aload_n 0, 1) := by decide +kernel
theorem dX1_table_82 : decode cX1_table 82 = .ok (.getfield 20, 3) := by decide +kernel
theorem dX1_table_85 : decode cX1_table 85 = .ok (.iload_n 1, 1) := by decide +kernel
theorem dX1_table_86 : decode cX1_table 86 = .ok (.iaload, 1) := by decide +kernel
theorem dX1_table_87 : decode cX1_table 87 = .ok (.goto 9, 3) := by decide +kernel
theorem dX1_table_90 : decode cX1_table 90 = .ok (.aload_n 0, 1) := by decide +kernel
theorem dX1_table_91 : decode cX1_table 91 = .ok (.getfield 13, 3) := by decide +kernel
theorem dX1_table_94 : decode cX1_table 94 = .ok (.iload_n 1, 1) := by decide +kernel
theorem dX1_table_95 : decode cX1_table 95 = .ok (.iaload, 1) := by decide +kernel
theorem dX1_table_96 : decode cX1_table 96 = .ok (.iastore, 1) := by decide +kernel
theorem dX1_table_97 : decode cX1_table 97 = .ok (.aload_n 0, 1) := by decide +kernel
theorem dX1_table_98 : decode cX1_table 98 = .ok (.getfield 30, 3) := by decide +kernel
theorem dX1_table_101 : decode cX1_table 101 = .ok (.iload_n 1, 1) := by decide +kernel
theorem dX1_table_102 : decode cX1_table 102 = .ok (.aload_n 0, 1) := by decide +kernel
theorem dX1_table_103 : decode cX1_table 103 = .ok (.getfield 9, 3) := by decide +kernel
theorem dX1_table_106 : decode cX1_table 106 = .ok (.iload_n 1, 1) := by decide +kernel
theorem dX1_table_107 : decode cX1_table 107 = .ok (.baload, 1) := by decide +kernel
theorem dX1_table_108 : decode cX1_table 108 = .ok (.ifCond .eq 31, 3) := by decide +kernel
theorem dX1_table_111 : decode cX1_table 111 = .ok (.aload_n 0, 1) := by decide +kernel
theorem dX1_table_112 : decode cX1_table 112 = .ok (.getfield 30, 3) := by decide +kernel
theorem dX1_table_115 : decode cX1_table 115 = .ok (.aload_n 0, 1) := by decide +kernel
theorem dX1_table_116 : decode cX1_table 116 = .ok (.getfield 13, 3) := by decide +kernel
theorem dX1_table_119 : decode cX1_table 119 = .ok (.iload_n 1, 1) := by decide +kernel
theorem dX1_table_120 : decode cX1_table 120 = .ok (.iaload, 1) := by decide +kernel
theorem dX1_table_121 : decode cX1_table 121 = .ok (.iaload, 1) := by decide +kernel
theorem dX1_table_122 : decode cX1_table 122 = .ok (.aload_n 0, 1) := by decide +kernel
theorem dX1_table_123 : decode cX1_table 123 = .ok (.getfield 30, 3) := by decide +kernel
theorem dX1_table_126 : decode cX1_table 126 = .ok (.aload_n 0, 1) := by decide +kernel
theorem dX1_table_127 : decode cX1_table 127 = .ok (.getfield 17, 3) := by decide +kernel
theorem dX1_table_130 : decode cX1_table 130 = .ok (.iload_n 1, 1) := by decide +kernel
theorem dX1_table_131 : decode cX1_table 131 = .ok (.iaload, 1) := by decide +kernel
theorem dX1_table_132 : decode cX1_table 132 = .ok (.iaload, 1) := by decide +kernel
theorem dX1_table_133 : decode cX1_table 133 = .ok (.invokestatic 60, 3) := by decide +kernel
theorem dX1_table_136 : decode cX1_table 136 = .ok (.goto 22, 3) := by decide +kernel
theorem dX1_table_139 : decode cX1_table 139 = .ok (.iload_n 2, 1) := by decide +kernel
theorem dX1_table_140 : decode cX1_table 140 = .ok (.ifCond .eq 12, 3) := by decide +kernel
theorem dX1_table_143 : decode cX1_table 143 = .ok (.aload_n 0, 1) := by decide +kernel
theorem dX1_table_144 : decode cX1_table 144 = .ok (.getfield 20, 3) := by decide +kernel
theorem dX1_table_147 : decode cX1_table 147 = .ok (.iload_n 1, 1) := by decide +kernel
theorem dX1_table_148 : decode cX1_table 148 = .ok (.iaload, 1) := by decide +kernel
theorem dX1_table_149 : decode cX1_table 149 = .ok (.goto 9, 3) := by decide +kernel
theorem dX1_table_152 : decode cX1_table 152 = .ok (.aload_n 0, 1) := by decide +kernel
theorem dX1_table_153 : decode cX1_table 153 = .ok (.getfield 17, 3) := by decide +kernel
theorem dX1_table_156 : decode cX1_table 156 = .ok (.iload_n 1, 1) := by decide +kernel
theorem dX1_table_157 : decode cX1_table 157 = .ok (.iaload, 1) := by decide +kernel
theorem dX1_table_158 : decode cX1_table 158 = .ok (.iastore, 1) := by decide +kernel
theorem dX1_table_159 : decode cX1_table 159 = .ok (.iinc 1 1, 3) := by decide +kernel
theorem dX1_table_162 : decode cX1_table 162 = .ok (.goto (-160), 3) := by decide +kernel
theorem dX1_table_165 : decode cX1_table 165 = .ok (.return_, 1) := by decide +kernel
theorem dX1_riskOf_0 : decode cX1_riskOf 0 = .ok (.iload_n 2, 1) := by decide +kernel
theorem dX1_riskOf_1 : decode cX1_riskOf 1 = .ok (.ifCond .eq 12, 3) := by decide +kernel
theorem dX1_riskOf_4 : decode cX1_riskOf 4 = .ok (.aload_n 0, 1) := by decide +kernel
theorem dX1_riskOf_5 : decode cX1_riskOf 5 = .ok (.getfield 17, 3) := by decide +kernel
theorem dX1_riskOf_8 : decode cX1_riskOf 8 = .ok (.iload_n 1, 1) := by decide +kernel
theorem dX1_riskOf_9 : decode cX1_riskOf 9 = .ok (.iaload, 1) := by decide +kernel
theorem dX1_riskOf_10 : decode cX1_riskOf 10 = .ok (.goto 9, 3) := by decide +kernel
theorem dX1_riskOf_13 : decode cX1_riskOf 13 = .ok (.aload_n 0, 1) := by decide +kernel
theorem dX1_riskOf_14 : decode cX1_riskOf 14 = .ok (.getfield 13, 3) := by decide +kernel
theorem dX1_riskOf_17 : decode cX1_riskOf 17 = .ok (.iload_n 1, 1) := by decide +kernel
theorem dX1_riskOf_18 : decode cX1_riskOf 18 = .ok (.iaload, 1) := by decide +kernel
theorem dX1_riskOf_19 : decode cX1_riskOf 19 = .ok (.istore_n 3, 1) := by decide +kernel
theorem dX1_riskOf_20 : decode cX1_riskOf 20 = .ok (.iload_n 2, 1) := by decide +kernel
theorem dX1_riskOf_21 : decode cX1_riskOf 21 = .ok (.ifCond .eq 12, 3) := by decide +kernel
theorem dX1_riskOf_24 : decode cX1_riskOf 24 = .ok (.aload_n 0, 1) := by decide +kernel
theorem dX1_riskOf_25 : decode cX1_riskOf 25 = .ok (.getfield 13, 3) := by decide +kernel
theorem dX1_riskOf_28 : decode cX1_riskOf 28 = .ok (.iload_n 1, 1) := by decide +kernel
theorem dX1_riskOf_29 : decode cX1_riskOf 29 = .ok (.iaload, 1) := by decide +kernel
theorem dX1_riskOf_30 : decode cX1_riskOf 30 = .ok (.goto 9, 3) := by decide +kernel
theorem dX1_riskOf_33 : decode cX1_riskOf 33 = .ok (.aload_n 0, 1) := by decide +kernel
theorem dX1_riskOf_34 : decode cX1_riskOf 34 = .ok (.getfield 17, 3) := by decide +kernel
theorem dX1_riskOf_37 : decode cX1_riskOf 37 = .ok (.iload_n 1, 1) := by decide +kernel
theorem dX1_riskOf_38 : decode cX1_riskOf 38 = .ok (.iaload, 1) := by decide +kernel
theorem dX1_riskOf_39 : decode cX1_riskOf 39 = .ok (.istore 4, 2) := by decide +kernel
theorem dX1_riskOf_41 : decode cX1_riskOf 41 = .ok (.iconst 0, 1) := by decide +kernel
theorem dX1_riskOf_42 : decode cX1_riskOf 42 = .ok (.aload_n 0, 1) := by decide +kernel
theorem dX1_riskOf_43 : decode cX1_riskOf 43 = .ok (.getfield 30, 3) := by decide +kernel
theorem dX1_riskOf_46 : decode cX1_riskOf 46 = .ok (.iload 4, 2) := by decide +kernel
theorem dX1_riskOf_48 : decode cX1_riskOf 48 = .ok (.iaload, 1) := by decide +kernel
theorem dX1_riskOf_49 : decode cX1_riskOf 49 = .ok (.aload_n 0, 1) := by decide +kernel
theorem dX1_riskOf_50 : decode cX1_riskOf 50 = .ok (.getfield 27, 3) := by decide +kernel
theorem dX1_riskOf_53 : decode cX1_riskOf 53 = .ok (.iload_n 3, 1) := by decide +kernel
theorem dX1_riskOf_54 : decode cX1_riskOf 54 = .ok (.iaload, 1) := by decide +kernel
theorem dX1_riskOf_55 : decode cX1_riskOf 55 = .ok (.isub, 1) := by decide +kernel
theorem dX1_riskOf_56 : decode cX1_riskOf 56 = .ok (.invokestatic 60, 3) := by decide +kernel
theorem dX1_riskOf_59 : decode cX1_riskOf 59 = .ok (.aload_n 0, 1) := by decide +kernel
theorem dX1_riskOf_60 : decode cX1_riskOf 60 = .ok (.getfield 20, 3) := by decide +kernel
theorem dX1_riskOf_63 : decode cX1_riskOf 63 = .ok (.iload_n 1, 1) := by decide +kernel
theorem dX1_riskOf_64 : decode cX1_riskOf 64 = .ok (.iaload, 1) := by decide +kernel
theorem dX1_riskOf_65 : decode cX1_riskOf 65 = .ok (.imul, 1) := by decide +kernel
theorem dX1_riskOf_66 : decode cX1_riskOf 66 = .ok (.ireturn, 1) := by decide +kernel
set_option maxRecDepth 20000 in
theorem ggX1_turnsRight_X1_riskOf : GoodIn wsX1_turnsRight wsX1_riskOf := goodIn_r _ [5, 6, 7, 8, 9, 10, 11, 12, 13, 14, 15, 16, 17, 18, 19, 20, 21, 22, 23, 24, 25, 26, 27] (by decide +kernel) (by decide +kernel)
set_option maxRecDepth 20000 in
theorem gX1_turnsRight_X1_riskOf : GoodIn wsX1_turnsRight (wsV RX1 66 RX1 yX1_riskOf wsX1_riskOf) := goodIn_app (goodIn_of _ (by decide +kernel)) ggX1_turnsRight_X1_riskOf
theorem dX1_turnsRight_0 : decode cX1_turnsRight 0 = .ok (.aload_n 0, 1) := by decide +kernel
theorem dX1_turnsRight_1 : decode cX1_turnsRight 1 = .ok (.iload_n 1, 1) := by decide +kernel
theorem dX1_turnsRight_2 : decode cX1_turnsRight 2 = .ok (.iconst 1, 1) := by decide +kernel
theorem dX1_turnsRight_3 : decode cX1_turnsRight 3 = .ok (.invokevirtual 66, 3) := by decide +kernel
theorem dX1_turnsRight_6 : decode cX1_turnsRight 6 = .ok (.aload_n 0, 1) := by decide +kernel
theorem dX1_turnsRight_7 : decode cX1_turnsRight 7 = .ok (.iload_n 1, 1) := by decide +kernel
theorem dX1_turnsRight_8 : decode cX1_turnsRight 8 = .ok (.iconst 0, 1) := by decide +kernel
theorem dX1_turnsRight_9 : decode cX1_turnsRight 9 = .ok (.invokevirtual 66, 3) := by decide +kernel
theorem dX1_turnsRight_12 : decode cX1_turnsRight 12 = .ok (.if_icmp .ge 7, 3) := by decide +kernel
theorem dX1_turnsRight_15 : decode cX1_turnsRight 15 = .ok (.iconst 1, 1) := by decide +kernel
theorem dX1_turnsRight_16 : decode cX1_turnsRight 16 = .ok (.goto 4, 3) := by decide +kernel
theorem dX1_turnsRight_19 : decode cX1_turnsRight 19 = .ok (.iconst 0, 1) := by decide +kernel
theorem dX1_turnsRight_20 : decode cX1_turnsRight 20 = .ok (.ireturn, 1) := by decide +kernel
set_option maxRecDepth 20000 in
theorem ggX1_planned_X1_turnsRight : GoodIn wsX1_planned wsX1_turnsRight := goodIn_r _ [7, 8, 9, 10, 6, 11, 1, 2, 12, 13, 14, 15, 16, 17, 18, 19, 20, 21, 22, 23, 24, 25, 26, 27, 28, 29, 30, 31] (by decide +kernel) (by decide +kernel)
set_option maxRecDepth 20000 in
theorem gX1_planned_X1_turnsRight : GoodIn wsX1_planned (wsV RX1 70 RX1 yX1_turnsRight wsX1_turnsRight) := goodIn_app (goodIn_of _ (by decide +kernel)) ggX1_planned_X1_turnsRight
theorem dX1_planned_0 : decode cX1_planned 0 = .ok (.aload_n 0, 1) := by decide +kernel
theorem dX1_planned_1 : decode cX1_planned 1 = .ok (.iload_n 1, 1) := by decide +kernel
theorem dX1_planned_2 : decode cX1_planned 2 = .ok (.invokevirtual 70, 3) := by decide +kernel
theorem dX1_planned_5 : decode cX1_planned 5 = .ok (.ifCond .eq 12, 3) := by decide +kernel
theorem dX1_planned_8 : decode cX1_planned 8 = .ok (.aload_n 0, 1) := by decide +kernel
theorem dX1_planned_9 : decode cX1_planned 9 = .ok (.getfield 17, 3) := by decide +kernel
theorem dX1_planned_12 : decode cX1_planned 12 = .ok (.iload_n 1, 1) := by decide +kernel
theorem dX1_planned_13 : decode cX1_planned 13 = .ok (.iaload, 1) := by decide +kernel
theorem dX1_planned_14 : decode cX1_planned 14 = .ok (.goto 9, 3) := by decide +kernel
theorem dX1_planned_17 : decode cX1_planned 17 = .ok (.aload_n 0, 1) := by decide +kernel
theorem dX1_planned_18 : decode cX1_planned 18 = .ok (.getfield 13, 3) := by decide +kernel
theorem dX1_planned_21 : decode cX1_planned 21 = .ok (.iload_n 1, 1) := by decide +kernel
theorem dX1_planned_22 : decode cX1_planned 22 = .ok (.iaload, 1) := by decide +kernel
theorem dX1_planned_23 : decode cX1_planned 23 = .ok (.ireturn, 1) := by decide +kernel
set_option maxRecDepth 20000 in
theorem ggX1_leads_X1_planned : GoodIn wsX1_leads wsX1_planned := goodIn_r _ [6, 7, 8, 9, 10, 11, 5, 12, 13, 14, 15, 16, 17, 18, 19, 20, 21, 22, 23, 24, 25, 26, 27, 28, 29, 30, 31, 32, 33, 34, 35, 36] (by decide +kernel) (by decide +kernel)
set_option maxRecDepth 20000 in
theorem gX1_leads_X1_planned : GoodIn wsX1_leads (wsV RX1 73 RX1 yX1_planned wsX1_planned) := goodIn_app (goodIn_of _ (by decide +kernel)) ggX1_leads_X1_planned
theorem dX1_leads_0 : decode cX1_leads 0 = .ok (.iload_n 1, 1) := by decide +kernel
theorem dX1_leads_1 : decode cX1_leads 1 = .ok (.istore_n 2, 1) := by decide +kernel
theorem dX1_leads_2 : decode cX1_leads 2 = .ok (.aload_n 0, 1) := by decide +kernel
theorem dX1_leads_3 : decode cX1_leads 3 = .ok (.getfield 9, 3) := by decide +kernel
theorem dX1_leads_6 : decode cX1_leads 6 = .ok (.iload_n 2, 1) := by decide +kernel
theorem dX1_leads_7 : decode cX1_leads 7 = .ok (.baload, 1) := by decide +kernel
theorem dX1_leads_8 : decode cX1_leads 8 = .ok (.ifCond .eq 12, 3) := by decide +kernel
theorem dX1_leads_11 : decode cX1_leads 11 = .ok (.aload_n 0, 1) := by decide +kernel
theorem dX1_leads_12 : decode cX1_leads 12 = .ok (.iload_n 2, 1) := by decide +kernel
theorem dX1_leads_13 : decode cX1_leads 13 = .ok (.invokevirtual 73, 3) := by decide +kernel
theorem dX1_leads_16 : decode cX1_leads 16 = .ok (.istore_n 2, 1) := by decide +kernel
theorem dX1_leads_17 : decode cX1_leads 17 = .ok (.goto (-15), 3) := by decide +kernel
theorem dX1_leads_20 : decode cX1_leads 20 = .ok (.iload_n 2, 1) := by decide +kernel
theorem dX1_leads_21 : decode cX1_leads 21 = .ok (.ireturn, 1) := by decide +kernel
set_option maxRecDepth 20000 in
theorem ggX1_examsOf_X1_has : GoodIn wsX1_examsOf wsX1_has := goodIn_r _ [6, 7, 8, 9, 10, 11, 12, 13, 14, 15, 16, 17, 18, 19, 20] (by decide +kernel) (by decide +kernel)
set_option maxRecDepth 20000 in
theorem gX1_examsOf_X1_has : GoodIn wsX1_examsOf (wsV RX1 77 RX1 yX1_has wsX1_has) := goodIn_app (goodIn_of _ (by decide +kernel)) ggX1_examsOf_X1_has
theorem dX1_examsOf_0 : decode cX1_examsOf 0 = .ok (.iconst 0, 1) := by decide +kernel
theorem dX1_examsOf_1 : decode cX1_examsOf 1 = .ok (.istore_n 2, 1) := by decide +kernel
theorem dX1_examsOf_2 : decode cX1_examsOf 2 = .ok (.iconst 0, 1) := by decide +kernel
theorem dX1_examsOf_3 : decode cX1_examsOf 3 = .ok (.istore_n 3, 1) := by decide +kernel
theorem dX1_examsOf_4 : decode cX1_examsOf 4 = .ok (.iload_n 3, 1) := by decide +kernel
theorem dX1_examsOf_5 : decode cX1_examsOf 5 = .ok (.iload_n 1, 1) := by decide +kernel
theorem dX1_examsOf_6 : decode cX1_examsOf 6 = .ok (.if_icmp .gt 35, 3) := by decide +kernel
theorem dX1_examsOf_9 : decode cX1_examsOf 9 = .ok (.iload_n 2, 1) := by decide +kernel
theorem dX1_examsOf_10 : decode cX1_examsOf 10 = .ok (.aload_n 0, 1) := by decide +kernel
theorem dX1_examsOf_11 : decode cX1_examsOf 11 = .ok (.iload_n 1, 1) := by decide +kernel
theorem dX1_examsOf_12 : decode cX1_examsOf 12 = .ok (.iload_n 3, 1) := by decide +kernel
theorem dX1_examsOf_13 : decode cX1_examsOf 13 = .ok (.invokevirtual 77, 3) := by decide +kernel
theorem dX1_examsOf_16 : decode cX1_examsOf 16 = .ok (.ifCond .eq 16, 3) := by decide +kernel
theorem dX1_examsOf_19 : decode cX1_examsOf 19 = .ok (.aload_n 0, 1) := by decide +kernel
theorem dX1_examsOf_20 : decode cX1_examsOf 20 = .ok (.getfield 9, 3) := by decide +kernel
theorem dX1_examsOf_23 : decode cX1_examsOf 23 = .ok (.iload_n 3, 1) := by decide +kernel
theorem dX1_examsOf_24 : decode cX1_examsOf 24 = .ok (.baload, 1) := by decide +kernel
theorem dX1_examsOf_25 : decode cX1_examsOf 25 = .ok (.ifCond .ne 7, 3) := by decide +kernel
theorem dX1_examsOf_28 : decode cX1_examsOf 28 = .ok (.iconst 1, 1) := by decide +kernel
theorem dX1_examsOf_29 : decode cX1_examsOf 29 = .ok (.goto 4, 3) := by decide +kernel
theorem dX1_examsOf_32 : decode cX1_examsOf 32 = .ok (.iconst 0, 1) := by decide +kernel
theorem dX1_examsOf_33 : decode cX1_examsOf 33 = .ok (.iadd, 1) := by decide +kernel
theorem dX1_examsOf_34 : decode cX1_examsOf 34 = .ok (.istore_n 2, 1) := by decide +kernel
theorem dX1_examsOf_35 : decode cX1_examsOf 35 = .ok (.iinc 3 1, 3) := by decide +kernel
theorem dX1_examsOf_38 : decode cX1_examsOf 38 = .ok (.goto (-34), 3) := by decide +kernel
theorem dX1_examsOf_41 : decode cX1_examsOf 41 = .ok (.iload_n 2, 1) := by decide +kernel
theorem dX1_examsOf_42 : decode cX1_examsOf 42 = .ok (.ireturn, 1) := by decide +kernel
set_option maxRecDepth 20000 in
theorem ggX1_riskiest_X1_riskOf : GoodIn wsX1_riskiest wsX1_riskOf := goodIn_r _ [11, 12, 13, 14, 15, 16, 17, 5, 18, 19, 20, 21, 22, 23, 24, 25, 26, 27, 28, 29, 30, 31, 32] (by decide +kernel) (by decide +kernel)
set_option maxRecDepth 20000 in
theorem gX1_riskiest_X1_riskOf : GoodIn wsX1_riskiest (wsV RX1 66 RX1 yX1_riskOf wsX1_riskOf) := goodIn_app (goodIn_of _ (by decide +kernel)) ggX1_riskiest_X1_riskOf
theorem dX1_riskiest_0 : decode cX1_riskiest 0 = .ok (.iconst (-1), 1) := by decide +kernel
theorem dX1_riskiest_1 : decode cX1_riskiest 1 = .ok (.istore_n 1, 1) := by decide +kernel
theorem dX1_riskiest_2 : decode cX1_riskiest 2 = .ok (.iconst (-1), 1) := by decide +kernel
theorem dX1_riskiest_3 : decode cX1_riskiest 3 = .ok (.istore_n 2, 1) := by decide +kernel
theorem dX1_riskiest_4 : decode cX1_riskiest 4 = .ok (.iconst 0, 1) := by decide +kernel
theorem dX1_riskiest_5 : decode cX1_riskiest 5 = .ok (.istore_n 3, 1) := by decide +kernel
theorem dX1_riskiest_6 : decode cX1_riskiest 6 = .ok (.iload_n 3, 1) := by decide +kernel
theorem dX1_riskiest_7 : decode cX1_riskiest 7 = .ok (.aload_n 0, 1) := by decide +kernel
theorem dX1_riskiest_8 : decode cX1_riskiest 8 = .ok (.getfield 46, 3) := by decide +kernel
theorem dX1_riskiest_11 : decode cX1_riskiest 11 = .ok (.if_icmp .ge 53, 3) := by decide +kernel
theorem dX1_riskiest_14 : decode cX1_riskiest 14 = .ok (.aload_n 0, 1) := by decide +kernel
theorem dX1_riskiest_15 : decode cX1_riskiest 15 = .ok (.getfield 9, 3) := by decide +kernel
theorem dX1_riskiest_18 : decode cX1_riskiest 18 = .ok (.iload_n 3, 1) := by decide +kernel
theorem dX1_riskiest_19 : decode cX1_riskiest 19 = .ok (.baload, 1) := by decide +kernel
theorem dX1_riskiest_20 : decode cX1_riskiest 20 = .ok (.ifCond .eq 21, 3) := by decide +kernel
theorem dX1_riskiest_23 : decode cX1_riskiest 23 = .ok (.aload_n 0, 1) := by decide +kernel
theorem dX1_riskiest_24 : decode cX1_riskiest 24 = .ok (.iload_n 3, 1) := by decide +kernel
theorem dX1_riskiest_25 : decode cX1_riskiest 25 = .ok (.iconst 1, 1) := by decide +kernel
theorem dX1_riskiest_26 : decode cX1_riskiest 26 = .ok (.invokevirtual 66, 3) := by decide +kernel
theorem dX1_riskiest_29 : decode cX1_riskiest 29 = .ok (.aload_n 0, 1) := by decide +kernel
theorem dX1_riskiest_30 : decode cX1_riskiest 30 = .ok (.iload_n 3, 1) := by decide +kernel
theorem dX1_riskiest_31 : decode cX1_riskiest 31 = .ok (.iconst 0, 1) := by decide +kernel
theorem dX1_riskiest_32 : decode cX1_riskiest 32 = .ok (.invokevirtual 66, 3) := by decide +kernel
theorem dX1_riskiest_35 : decode cX1_riskiest 35 = .ok (.invokestatic 81, 3) := by decide +kernel
theorem dX1_riskiest_38 : decode cX1_riskiest 38 = .ok (.goto 4, 3) := by decide +kernel
theorem dX1_riskiest_41 : decode cX1_riskiest 41 = .ok (.iconst (-1), 1) := by decide +kernel
theorem dX1_riskiest_42 : decode cX1_riskiest 42 = .ok (.istore 4, 2) := by decide +kernel
theorem dX1_riskiest_44 : decode cX1_riskiest 44 = .ok (.iload 4, 2) := by decide +kernel
theorem dX1_riskiest_46 : decode cX1_riskiest 46 = .ok (.iload_n 2, 1) := by decide +kernel
theorem dX1_riskiest_47 : decode cX1_riskiest 47 = .ok (.if_icmp .gt 6, 3) := by decide +kernel
theorem dX1_riskiest_50 : decode cX1_riskiest 50 = .ok (.goto 8, 3) := by decide +kernel
theorem dX1_riskiest_53 : decode cX1_riskiest 53 = .ok (.iload_n 3, 1) := by decide +kernel
theorem dX1_riskiest_54 : decode cX1_riskiest 54 = .ok (.istore_n 1, 1) := by decide +kernel
theorem dX1_riskiest_55 : decode cX1_riskiest 55 = .ok (.iload 4, 2) := by decide +kernel
theorem dX1_riskiest_57 : decode cX1_riskiest 57 = .ok (.istore_n 2, 1) := by decide +kernel
theorem dX1_riskiest_58 : decode cX1_riskiest 58 = .ok (.iinc 3 1, 3) := by decide +kernel
theorem dX1_riskiest_61 : decode cX1_riskiest 61 = .ok (.goto (-55), 3) := by decide +kernel
theorem dX1_riskiest_64 : decode cX1_riskiest 64 = .ok (.iload_n 1, 1) := by decide +kernel
theorem dX1_riskiest_65 : decode cX1_riskiest 65 = .ok (.ireturn, 1) := by decide +kernel
set_option maxRecDepth 20000 in
theorem ggX1_behind_X1_has : GoodIn wsX1_behind wsX1_has := goodIn_r _ [11, 12, 13, 14, 15, 16, 17, 18, 19, 20, 21, 22, 23, 24, 25] (by decide +kernel) (by decide +kernel)
set_option maxRecDepth 20000 in
theorem gX1_behind_X1_has : GoodIn wsX1_behind (wsV RX1 77 RX1 yX1_has wsX1_has) := goodIn_app (goodIn_of _ (by decide +kernel)) ggX1_behind_X1_has
theorem dX1_behind_0 : decode cX1_behind 0 = .ok (.iconst 0, 1) := by decide +kernel
theorem dX1_behind_1 : decode cX1_behind 1 = .ok (.istore_n 2, 1) := by decide +kernel
theorem dX1_behind_2 : decode cX1_behind 2 = .ok (.iconst 0, 1) := by decide +kernel
theorem dX1_behind_3 : decode cX1_behind 3 = .ok (.istore_n 3, 1) := by decide +kernel
theorem dX1_behind_4 : decode cX1_behind 4 = .ok (.iload_n 3, 1) := by decide +kernel
theorem dX1_behind_5 : decode cX1_behind 5 = .ok (.iload_n 1, 1) := by decide +kernel
theorem dX1_behind_6 : decode cX1_behind 6 = .ok (.if_icmp .ge 38, 3) := by decide +kernel
theorem dX1_behind_9 : decode cX1_behind 9 = .ok (.aload_n 0, 1) := by decide +kernel
theorem dX1_behind_10 : decode cX1_behind 10 = .ok (.iload_n 1, 1) := by decide +kernel
theorem dX1_behind_11 : decode cX1_behind 11 = .ok (.iload_n 3, 1) := by decide +kernel
theorem dX1_behind_12 : decode cX1_behind 12 = .ok (.invokevirtual 77, 3) := by decide +kernel
theorem dX1_behind_15 : decode cX1_behind 15 = .ok (.ifCond .eq 23, 3) := by decide +kernel
theorem dX1_behind_18 : decode cX1_behind 18 = .ok (.aload_n 0, 1) := by decide +kernel
theorem dX1_behind_19 : decode cX1_behind 19 = .ok (.getfield 9, 3) := by decide +kernel
theorem dX1_behind_22 : decode cX1_behind 22 = .ok (.iload_n 3, 1) := by decide +kernel
theorem dX1_behind_23 : decode cX1_behind 23 = .ok (.baload, 1) := by decide +kernel
theorem dX1_behind_24 : decode cX1_behind 24 = .ok (.ifCond .ne 14, 3) := by decide +kernel
theorem dX1_behind_27 : decode cX1_behind 27 = .ok (.iload_n 2, 1) := by decide +kernel
theorem dX1_behind_28 : decode cX1_behind 28 = .ok (.aload_n 0, 1) := by decide +kernel
theorem dX1_behind_29 : decode cX1_behind 29 = .ok (.getfield 20, 3) := by decide +kernel
theorem dX1_behind_32 : decode cX1_behind 32 = .ok (.iload_n 3, 1) := by decide +kernel
theorem dX1_behind_33 : decode cX1_behind 33 = .ok (.iaload, 1) := by decide +kernel
theorem dX1_behind_34 : decode cX1_behind 34 = .ok (.invokestatic 60, 3) := by decide +kernel
theorem dX1_behind_37 : decode cX1_behind 37 = .ok (.istore_n 2, 1) := by decide +kernel
theorem dX1_behind_38 : decode cX1_behind 38 = .ok (.iinc 3 1, 3) := by decide +kernel
theorem dX1_behind_41 : decode cX1_behind 41 = .ok (.goto (-37), 3) := by decide +kernel
theorem dX1_behind_44 : decode cX1_behind 44 = .ok (.iload_n 2, 1) := by decide +kernel
theorem dX1_behind_45 : decode cX1_behind 45 = .ok (.ireturn, 1) := by decide +kernel
theorem dX1_isKnown_0 : decode cX1_isKnown 0 = .ok (.aload_n 0, 1) := by decide +kernel
theorem dX1_isKnown_1 : decode cX1_isKnown 1 = .ok (.getfield 9, 3) := by decide +kernel
theorem dX1_isKnown_4 : decode cX1_isKnown 4 = .ok (.aload_n 0, 1) := by decide +kernel
theorem dX1_isKnown_5 : decode cX1_isKnown 5 = .ok (.getfield 33, 3) := by decide +kernel
theorem dX1_isKnown_8 : decode cX1_isKnown 8 = .ok (.iload_n 1, 1) := by decide +kernel
theorem dX1_isKnown_9 : decode cX1_isKnown 9 = .ok (.iaload, 1) := by decide +kernel
theorem dX1_isKnown_10 : decode cX1_isKnown 10 = .ok (.baload, 1) := by decide +kernel
theorem dX1_isKnown_11 : decode cX1_isKnown 11 = .ok (.ifCond .ne 22, 3) := by decide +kernel
theorem dX1_isKnown_14 : decode cX1_isKnown 14 = .ok (.aload_n 0, 1) := by decide +kernel
theorem dX1_isKnown_15 : decode cX1_isKnown 15 = .ok (.getfield 20, 3) := by decide +kernel
theorem dX1_isKnown_18 : decode cX1_isKnown 18 = .ok (.aload_n 0, 1) := by decide +kernel
theorem dX1_isKnown_19 : decode cX1_isKnown 19 = .ok (.getfield 33, 3) := by decide +kernel
theorem dX1_isKnown_22 : decode cX1_isKnown 22 = .ok (.iload_n 1, 1) := by decide +kernel
theorem dX1_isKnown_23 : decode cX1_isKnown 23 = .ok (.iaload, 1) := by decide +kernel
theorem dX1_isKnown_24 : decode cX1_isKnown 24 = .ok (.iaload, 1) := by decide +kernel
theorem dX1_isKnown_25 : decode cX1_isKnown 25 = .ok (.iconst (-1), 1) := by decide +kernel
theorem dX1_isKnown_26 : decode cX1_isKnown 26 = .ok (.if_icmp .eq 7, 3) := by decide +kernel
theorem dX1_isKnown_29 : decode cX1_isKnown 29 = .ok (.iconst 1, 1) := by decide +kernel
theorem dX1_isKnown_30 : decode cX1_isKnown 30 = .ok (.goto 4, 3) := by decide +kernel
theorem dX1_isKnown_33 : decode cX1_isKnown 33 = .ok (.iconst 0, 1) := by decide +kernel
theorem dX1_isKnown_34 : decode cX1_isKnown 34 = .ok (.ireturn, 1) := by decide +kernel
set_option maxRecDepth 20000 in
theorem ggX1_regret_X1_behind : GoodIn wsX1_regret wsX1_behind := goodIn_r _ [12, 13, 2, 4, 5, 6, 7, 14, 15, 16, 11, 17, 18, 19, 20, 21, 22, 23, 24, 25, 26, 27, 28, 29, 30, 31] (by decide +kernel) (by decide +kernel)
set_option maxRecDepth 20000 in
theorem gX1_regret_X1_behind : GoodIn wsX1_regret (wsV RX1 84 RX1 yX1_behind wsX1_behind) := goodIn_app (goodIn_of _ (by decide +kernel)) ggX1_regret_X1_behind
theorem dX1_regret_0 : decode cX1_regret 0 = .ok (.aload_n 0, 1) := by decide +kernel
theorem dX1_regret_1 : decode cX1_regret 1 = .ok (.getfield 39, 3) := by decide +kernel
theorem dX1_regret_4 : decode cX1_regret 4 = .ok (.bipush 40, 2) := by decide +kernel
theorem dX1_regret_6 : decode cX1_regret 6 = .ok (.iload_n 1, 1) := by decide +kernel
theorem dX1_regret_7 : decode cX1_regret 7 = .ok (.imul, 1) := by decide +kernel
theorem dX1_regret_8 : decode cX1_regret 8 = .ok (.iload_n 2, 1) := by decide +kernel
theorem dX1_regret_9 : decode cX1_regret 9 = .ok (.iadd, 1) := by decide +kernel
theorem dX1_regret_10 : decode cX1_regret 10 = .ok (.iaload, 1) := by decide +kernel
theorem dX1_regret_11 : decode cX1_regret 11 = .ok (.istore_n 3, 1) := by decide +kernel
theorem dX1_regret_12 : decode cX1_regret 12 = .ok (.iconst 0, 1) := by decide +kernel
theorem dX1_regret_13 : decode cX1_regret 13 = .ok (.aload_n 0, 1) := by decide +kernel
theorem dX1_regret_14 : decode cX1_regret 14 = .ok (.iload_n 3, 1) := by decide +kernel
theorem dX1_regret_15 : decode cX1_regret 15 = .ok (.invokevirtual 84, 3) := by decide +kernel
theorem dX1_regret_18 : decode cX1_regret 18 = .ok (.aload_n 0, 1) := by decide +kernel
theorem dX1_regret_19 : decode cX1_regret 19 = .ok (.getfield 20, 3) := by decide +kernel
theorem dX1_regret_22 : decode cX1_regret 22 = .ok (.aload_n 0, 1) := by decide +kernel
theorem dX1_regret_23 : decode cX1_regret 23 = .ok (.getfield 33, 3) := by decide +kernel
theorem dX1_regret_26 : decode cX1_regret 26 = .ok (.iload_n 1, 1) := by decide +kernel
theorem dX1_regret_27 : decode cX1_regret 27 = .ok (.iaload, 1) := by decide +kernel
theorem dX1_regret_28 : decode cX1_regret 28 = .ok (.iaload, 1) := by decide +kernel
theorem dX1_regret_29 : decode cX1_regret 29 = .ok (.isub, 1) := by decide +kernel
theorem dX1_regret_30 : decode cX1_regret 30 = .ok (.invokestatic 60, 3) := by decide +kernel
theorem dX1_regret_33 : decode cX1_regret 33 = .ok (.aload_n 0, 1) := by decide +kernel
theorem dX1_regret_34 : decode cX1_regret 34 = .ok (.getfield 20, 3) := by decide +kernel
theorem dX1_regret_37 : decode cX1_regret 37 = .ok (.iload_n 3, 1) := by decide +kernel
theorem dX1_regret_38 : decode cX1_regret 38 = .ok (.iaload, 1) := by decide +kernel
theorem dX1_regret_39 : decode cX1_regret 39 = .ok (.imul, 1) := by decide +kernel
theorem dX1_regret_40 : decode cX1_regret 40 = .ok (.ireturn, 1) := by decide +kernel
set_option maxRecDepth 20000 in
theorem ggX1_regrets_X1_regret : GoodIn wsX1_regrets wsX1_regret := goodIn_r _ [6, 7, 8, 9, 10, 11, 12, 13, 14, 15, 16, 5, 17, 18, 19, 20, 21, 22, 23, 24, 25, 26, 27, 28, 29, 30, 31, 32, 33, 34, 35, 36] (by decide +kernel) (by decide +kernel)
set_option maxRecDepth 20000 in
theorem gX1_regrets_X1_regret : GoodIn wsX1_regrets (wsV RX1 87 RX1 yX1_regret wsX1_regret) := goodIn_app (goodIn_of _ (by decide +kernel)) ggX1_regrets_X1_regret
theorem dX1_regrets_0 : decode cX1_regrets 0 = .ok (.iconst 0, 1) := by decide +kernel
theorem dX1_regrets_1 : decode cX1_regrets 1 = .ok (.istore_n 2, 1) := by decide +kernel
theorem dX1_regrets_2 : decode cX1_regrets 2 = .ok (.iconst 0, 1) := by decide +kernel
theorem dX1_regrets_3 : decode cX1_regrets 3 = .ok (.istore_n 3, 1) := by decide +kernel
theorem dX1_regrets_4 : decode cX1_regrets 4 = .ok (.iload_n 3, 1) := by decide +kernel
theorem dX1_regrets_5 : decode cX1_regrets 5 = .ok (.aload_n 0, 1) := by decide +kernel
theorem dX1_regrets_6 : decode cX1_regrets 6 = .ok (.getfield 36, 3) := by decide +kernel
theorem dX1_regrets_9 : decode cX1_regrets 9 = .ok (.iload_n 1, 1) := by decide +kernel
theorem dX1_regrets_10 : decode cX1_regrets 10 = .ok (.iaload, 1) := by decide +kernel
theorem dX1_regrets_11 : decode cX1_regrets 11 = .ok (.if_icmp .ge 18, 3) := by decide +kernel
theorem dX1_regrets_14 : decode cX1_regrets 14 = .ok (.iload_n 2, 1) := by decide +kernel
theorem dX1_regrets_15 : decode cX1_regrets 15 = .ok (.aload_n 0, 1) := by decide +kernel
theorem dX1_regrets_16 : decode cX1_regrets 16 = .ok (.iload_n 1, 1) := by decide +kernel
theorem dX1_regrets_17 : decode cX1_regrets 17 = .ok (.iload_n 3, 1) := by decide +kernel
theorem dX1_regrets_18 : decode cX1_regrets 18 = .ok (.invokevirtual 87, 3) := by decide +kernel
theorem dX1_regrets_21 : decode cX1_regrets 21 = .ok (.iadd, 1) := by decide +kernel
theorem dX1_regrets_22 : decode cX1_regrets 22 = .ok (.istore_n 2, 1) := by decide +kernel
theorem dX1_regrets_23 : decode cX1_regrets 23 = .ok (.iinc 3 1, 3) := by decide +kernel
theorem dX1_regrets_26 : decode cX1_regrets 26 = .ok (.goto (-22), 3) := by decide +kernel
theorem dX1_regrets_29 : decode cX1_regrets 29 = .ok (.iload_n 2, 1) := by decide +kernel
theorem dX1_regrets_30 : decode cX1_regrets 30 = .ok (.ireturn, 1) := by decide +kernel
set_option maxRecDepth 20000 in
theorem ggX1_allRegrets_X1_isKnown : GoodIn wsX1_allRegrets wsX1_isKnown := goodIn_r _ [6, 7, 8, 9, 33, 34, 35, 36, 37, 38, 39, 40, 41, 42, 43, 44, 45] (by decide +kernel) (by decide +kernel)
set_option maxRecDepth 20000 in
theorem gX1_allRegrets_X1_isKnown : GoodIn wsX1_allRegrets (wsV RX1 90 RX1 yX1_isKnown wsX1_isKnown) := goodIn_app (goodIn_of _ (by decide +kernel)) ggX1_allRegrets_X1_isKnown
set_option maxRecDepth 20000 in
theorem ggX1_allRegrets_X1_regrets : GoodIn wsX1_allRegrets wsX1_regrets := goodIn_r _ [13, 14, 15, 16, 17, 5, 18, 19, 9, 8, 20, 21, 22, 23, 24, 25, 26, 27, 7, 28, 29, 30, 31, 32, 33, 34, 35, 36, 37, 38, 39, 40, 41, 42, 43, 44, 45] (by decide +kernel) (by decide +kernel)
set_option maxRecDepth 20000 in
theorem gX1_allRegrets_X1_regrets : GoodIn wsX1_allRegrets (wsV RX1 93 RX1 yX1_regrets wsX1_regrets) := goodIn_app (goodIn_of _ (by decide +kernel)) ggX1_allRegrets_X1_regrets
theorem dX1_allRegrets_0 : decode cX1_allRegrets 0 = .ok (.iconst 0, 1) := by decide +kernel
theorem dX1_allRegrets_1 : decode cX1_allRegrets 1 = .ok (.istore_n 1, 1) := by decide +kernel
theorem dX1_allRegrets_2 : decode cX1_allRegrets 2 = .ok (.iconst 0, 1) := by decide +kernel
theorem dX1_allRegrets_3 : decode cX1_allRegrets 3 = .ok (.istore_n 2, 1) := by decide +kernel
theorem dX1_allRegrets_4 : decode cX1_allRegrets 4 = .ok (.iload_n 2, 1) := by decide +kernel
theorem dX1_allRegrets_5 : decode cX1_allRegrets 5 = .ok (.aload_n 0, 1) := by decide +kernel
theorem dX1_allRegrets_6 : decode cX1_allRegrets 6 = .ok (.getfield 57, 3) := by decide +kernel
theorem dX1_allRegrets_9 : decode cX1_allRegrets 9 = .ok (.if_icmp .ge 29, 3) := by decide +kernel
theorem dX1_allRegrets_12 : decode cX1_allRegrets 12 = .ok (.iload_n 1, 1) := by decide +kernel
theorem dX1_allRegrets_13 : decode cX1_allRegrets 13 = .ok (.aload_n 0, 1) := by decide +kernel
theorem dX1_allRegrets_14 : decode cX1_allRegrets 14 = .ok (.iload_n 2, 1) := by decide +kernel
theorem dX1_allRegrets_15 : decode cX1_allRegrets 15 = .ok (.invokevirtual 90, 3) := by decide +kernel
theorem dX1_allRegrets_18 : decode cX1_allRegrets 18 = .ok (.ifCond .eq 11, 3) := by decide +kernel
theorem dX1_allRegrets_21 : decode cX1_allRegrets 21 = .ok (.aload_n 0, 1) := by decide +kernel
theorem dX1_allRegrets_22 : decode cX1_allRegrets 22 = .ok (.iload_n 2, 1) := by decide +kernel
theorem dX1_allRegrets_23 : decode cX1_allRegrets 23 = .ok (.invokevirtual 93, 3) := by decide +kernel
theorem dX1_allRegrets_26 : decode cX1_allRegrets 26 = .ok (.goto 4, 3) := by decide +kernel
theorem dX1_allRegrets_29 : decode cX1_allRegrets 29 = .ok (.iconst 0, 1) := by decide +kernel
theorem dX1_allRegrets_30 : decode cX1_allRegrets 30 = .ok (.iadd, 1) := by decide +kernel
theorem dX1_allRegrets_31 : decode cX1_allRegrets 31 = .ok (.istore_n 1, 1) := by decide +kernel
theorem dX1_allRegrets_32 : decode cX1_allRegrets 32 = .ok (.iinc 2 1, 3) := by decide +kernel
theorem dX1_allRegrets_35 : decode cX1_allRegrets 35 = .ok (.goto (-31), 3) := by decide +kernel
theorem dX1_allRegrets_38 : decode cX1_allRegrets 38 = .ok (.iload_n 1, 1) := by decide +kernel
theorem dX1_allRegrets_39 : decode cX1_allRegrets 39 = .ok (.ireturn, 1) := by decide +kernel
set_option maxRecDepth 20000 in
theorem ggX1_addExam_X1_no : GoodIn wsX1_addExam wsX1_no := goodIn_r _ [11, 1, 12, 13, 14, 15, 16, 17, 18, 19, 20, 21, 22, 23, 24] (by decide +kernel) (by decide +kernel)
set_option maxRecDepth 20000 in
theorem gX1_addExam_X1_no : GoodIn wsX1_addExam (wsV RX1 96 RX1 yX1_no wsX1_no) := goodIn_app (goodIn_of _ (by decide +kernel)) ggX1_addExam_X1_no
theorem dX1_addExam_0 : decode cX1_addExam 0 = .ok (.aload_n 0, 1) := by decide +kernel
theorem dX1_addExam_1 : decode cX1_addExam 1 = .ok (.iconst 0, 1) := by decide +kernel
theorem dX1_addExam_2 : decode cX1_addExam 2 = .ok (.putfield 42, 3) := by decide +kernel
theorem dX1_addExam_5 : decode cX1_addExam 5 = .ok (.iload_n 1, 1) := by decide +kernel
theorem dX1_addExam_6 : decode cX1_addExam 6 = .ok (.ifCond .lt 14, 3) := by decide +kernel
theorem dX1_addExam_9 : decode cX1_addExam 9 = .ok (.iload_n 2, 1) := by decide +kernel
theorem dX1_addExam_10 : decode cX1_addExam 10 = .ok (.bipush 20, 2) := by decide +kernel
theorem dX1_addExam_12 : decode cX1_addExam 12 = .ok (.if_icmp .gt 8, 3) := by decide +kernel
theorem dX1_addExam_15 : decode cX1_addExam 15 = .ok (.iload_n 2, 1) := by decide +kernel
theorem dX1_addExam_16 : decode cX1_addExam 16 = .ok (.iload_n 1, 1) := by decide +kernel
theorem dX1_addExam_17 : decode cX1_addExam 17 = .ok (.if_icmp .ge 9, 3) := by decide +kernel
theorem dX1_addExam_20 : decode cX1_addExam 20 = .ok (.aload_n 0, 1) := by decide +kernel
theorem dX1_addExam_21 : decode cX1_addExam 21 = .ok (.iconst 1, 1) := by decide +kernel
theorem dX1_addExam_22 : decode cX1_addExam 22 = .ok (.invokevirtual 96, 3) := by decide +kernel
theorem dX1_addExam_25 : decode cX1_addExam 25 = .ok (.ireturn, 1) := by decide +kernel
theorem dX1_addExam_26 : decode cX1_addExam 26 = .ok (.aload_n 0, 1) := by decide +kernel
theorem dX1_addExam_27 : decode cX1_addExam 27 = .ok (.getfield 46, 3) := by decide +kernel
theorem dX1_addExam_30 : decode cX1_addExam 30 = .ok (.bipush 40, 2) := by decide +kernel
theorem dX1_addExam_32 : decode cX1_addExam 32 = .ok (.if_icmp .ne 9, 3) := by decide +kernel
theorem dX1_addExam_35 : decode cX1_addExam 35 = .ok (.aload_n 0, 1) := by decide +kernel
theorem dX1_addExam_36 : decode cX1_addExam 36 = .ok (.iconst 2, 1) := by decide +kernel
theorem dX1_addExam_37 : decode cX1_addExam 37 = .ok (.invokevirtual 96, 3) := by decide +kernel
theorem dX1_addExam_40 : decode cX1_addExam 40 = .ok (.ireturn, 1) := by decide +kernel
theorem dX1_addExam_41 : decode cX1_addExam 41 = .ok (.aload_n 0, 1) := by decide +kernel
theorem dX1_addExam_42 : decode cX1_addExam 42 = .ok (.getfield 13, 3) := by decide +kernel
theorem dX1_addExam_45 : decode cX1_addExam 45 = .ok (.aload_n 0, 1) := by decide +kernel
theorem dX1_addExam_46 : decode cX1_addExam 46 = .ok (.getfield 46, 3) := by decide +kernel
theorem dX1_addExam_49 : decode cX1_addExam 49 = .ok (.iload_n 1, 1) := by decide +kernel
theorem dX1_addExam_50 : decode cX1_addExam 50 = .ok (.iastore, 1) := by decide +kernel
theorem dX1_addExam_51 : decode cX1_addExam 51 = .ok (.aload_n 0, 1) := by decide +kernel
theorem dX1_addExam_52 : decode cX1_addExam 52 = .ok (.getfield 17, 3) := by decide +kernel
theorem dX1_addExam_55 : decode cX1_addExam 55 = .ok (.aload_n 0, 1) := by decide +kernel
theorem dX1_addExam_56 : decode cX1_addExam 56 = .ok (.getfield 46, 3) := by decide +kernel
theorem dX1_addExam_59 : decode cX1_addExam 59 = .ok (.iload_n 2, 1) := by decide +kernel
theorem dX1_addExam_60 : decode cX1_addExam 60 = .ok (.iastore, 1) := by decide +kernel
theorem dX1_addExam_61 : decode cX1_addExam 61 = .ok (.aload_n 0, 1) := by decide +kernel
theorem dX1_addExam_62 : decode cX1_addExam 62 = .ok (.getfield 20, 3) := by decide +kernel
theorem dX1_addExam_65 : decode cX1_addExam 65 = .ok (.aload_n 0, 1) := by decide +kernel
theorem dX1_addExam_66 : decode cX1_addExam 66 = .ok (.getfield 46, 3) := by decide +kernel
theorem dX1_addExam_69 : decode cX1_addExam 69 = .ok (.iconst (-1), 1) := by decide +kernel
theorem dX1_addExam_70 : decode cX1_addExam 70 = .ok (.iastore, 1) := by decide +kernel
theorem dX1_addExam_71 : decode cX1_addExam 71 = .ok (.aload_n 0, 1) := by decide +kernel
theorem dX1_addExam_72 : decode cX1_addExam 72 = .ok (.getfield 23, 3) := by decide +kernel
theorem dX1_addExam_75 : decode cX1_addExam 75 = .ok (.aload_n 0, 1) := by decide +kernel
theorem dX1_addExam_76 : decode cX1_addExam 76 = .ok (.getfield 46, 3) := by decide +kernel
theorem dX1_addExam_79 : decode cX1_addExam 79 = .ok (.lconst 1, 1) := by decide +kernel
theorem dX1_addExam_80 : decode cX1_addExam 80 = .ok (.aload_n 0, 1) := by decide +kernel
theorem dX1_addExam_81 : decode cX1_addExam 81 = .ok (.getfield 46, 3) := by decide +kernel
theorem dX1_addExam_84 : decode cX1_addExam 84 = .ok (.lshl, 1) := by decide +kernel
theorem dX1_addExam_85 : decode cX1_addExam 85 = .ok (.lastore, 1) := by decide +kernel
theorem dX1_addExam_86 : decode cX1_addExam 86 = .ok (.aload_n 0, 1) := by decide +kernel
theorem dX1_addExam_87 : decode cX1_addExam 87 = .ok (.dup, 1) := by decide +kernel
theorem dX1_addExam_88 : decode cX1_addExam 88 = .ok (.getfield 46, 3) := by decide +kernel
theorem dX1_addExam_91 : decode cX1_addExam 91 = .ok (.iconst 1, 1) := by decide +kernel
theorem dX1_addExam_92 : decode cX1_addExam 92 = .ok (.iadd, 1) := by decide +kernel
theorem dX1_addExam_93 : decode cX1_addExam 93 = .ok (.putfield 46, 3) := by decide +kernel
theorem dX1_addExam_96 : decode cX1_addExam 96 = .ok (.aload_n 0, 1) := by decide +kernel
theorem dX1_addExam_97 : decode cX1_addExam 97 = .ok (.getfield 46, 3) := by decide +kernel
theorem dX1_addExam_100 : decode cX1_addExam 100 = .ok (.iconst 1, 1) := by decide +kernel
theorem dX1_addExam_101 : decode cX1_addExam 101 = .ok (.isub, 1) := by decide +kernel
theorem dX1_addExam_102 : decode cX1_addExam 102 = .ok (.ireturn, 1) := by decide +kernel
set_option maxRecDepth 20000 in
theorem ggX1_addFork_X1_isPlace : GoodIn wsX1_addFork wsX1_isPlace := goodIn_r _ [12, 2, 13, 14, 11, 15, 20, 21, 22, 23, 24, 25, 26, 27, 28, 29, 30, 31, 32] (by decide +kernel) (by decide +kernel)
set_option maxRecDepth 20000 in
theorem gX1_addFork_X1_isPlace : GoodIn wsX1_addFork (wsV RX1 53 RX1 yX1_isPlace wsX1_isPlace) := goodIn_app (goodIn_of _ (by decide +kernel)) ggX1_addFork_X1_isPlace
set_option maxRecDepth 20000 in
theorem ggX1_addFork_X1_no : GoodIn wsX1_addFork wsX1_no := goodIn_r _ [19, 1, 20, 21, 22, 23, 24, 25, 26, 27, 28, 29, 30, 31, 32] (by decide +kernel) (by decide +kernel)
set_option maxRecDepth 20000 in
theorem gX1_addFork_X1_no : GoodIn wsX1_addFork (wsV RX1 96 RX1 yX1_no wsX1_no) := goodIn_app (goodIn_of _ (by decide +kernel)) ggX1_addFork_X1_no
set_option maxRecDepth 20000 in
theorem ggX1_addFork_X1_isIn : GoodIn wsX1_addFork wsX1_isIn := goodIn_r _ [15] (by decide +kernel) (by decide +kernel)
set_option maxRecDepth 20000 in
theorem gX1_addFork_X1_isIn : GoodIn wsX1_addFork (va_wsS RX1 49 yX1_isIn wsX1_isIn) := goodIn_app (goodIn_of _ (by decide +kernel)) ggX1_addFork_X1_isIn
theorem dX1_addFork_0 : decode cX1_addFork 0 = .ok (.aload_n 0, 1) := by decide +kernel
theorem dX1_addFork_1 : decode cX1_addFork 1 = .ok (.iconst 0, 1) := by decide +kernel
theorem dX1_addFork_2 : decode cX1_addFork 2 = .ok (.putfield 42, 3) := by decide +kernel
theorem dX1_addFork_5 : decode cX1_addFork 5 = .ok (.aload_n 0, 1) := by decide +kernel
theorem dX1_addFork_6 : decode cX1_addFork 6 = .ok (.iload_n 1, 1) := by decide +kernel
theorem dX1_addFork_7 : decode cX1_addFork 7 = .ok (.invokevirtual 53, 3) := by decide +kernel
theorem dX1_addFork_10 : decode cX1_addFork 10 = .ok (.ifCond .eq 11, 3) := by decide +kernel
theorem dX1_addFork_13 : decode cX1_addFork 13 = .ok (.aload_n 0, 1) := by decide +kernel
theorem dX1_addFork_14 : decode cX1_addFork 14 = .ok (.iload_n 2, 1) := by decide +kernel
theorem dX1_addFork_15 : decode cX1_addFork 15 = .ok (.invokevirtual 53, 3) := by decide +kernel
theorem dX1_addFork_18 : decode cX1_addFork 18 = .ok (.ifCond .ne 9, 3) := by decide +kernel
theorem dX1_addFork_21 : decode cX1_addFork 21 = .ok (.aload_n 0, 1) := by decide +kernel
theorem dX1_addFork_22 : decode cX1_addFork 22 = .ok (.iconst 1, 1) := by decide +kernel
theorem dX1_addFork_23 : decode cX1_addFork 23 = .ok (.invokevirtual 96, 3) := by decide +kernel
theorem dX1_addFork_26 : decode cX1_addFork 26 = .ok (.ireturn, 1) := by decide +kernel
theorem dX1_addFork_27 : decode cX1_addFork 27 = .ok (.iload_n 3, 1) := by decide +kernel
theorem dX1_addFork_28 : decode cX1_addFork 28 = .ok (.iconst 1, 1) := by decide +kernel
theorem dX1_addFork_29 : decode cX1_addFork 29 = .ok (.bipush 9, 2) := by decide +kernel
theorem dX1_addFork_31 : decode cX1_addFork 31 = .ok (.invokestatic 49, 3) := by decide +kernel
theorem dX1_addFork_34 : decode cX1_addFork 34 = .ok (.ifCond .ne 9, 3) := by decide +kernel
theorem dX1_addFork_37 : decode cX1_addFork 37 = .ok (.aload_n 0, 1) := by decide +kernel
theorem dX1_addFork_38 : decode cX1_addFork 38 = .ok (.iconst 2, 1) := by decide +kernel
theorem dX1_addFork_39 : decode cX1_addFork 39 = .ok (.invokevirtual 96, 3) := by decide +kernel
theorem dX1_addFork_42 : decode cX1_addFork 42 = .ok (.ireturn, 1) := by decide +kernel
theorem dX1_addFork_43 : decode cX1_addFork 43 = .ok (.aload_n 0, 1) := by decide +kernel
theorem dX1_addFork_44 : decode cX1_addFork 44 = .ok (.getfield 46, 3) := by decide +kernel
theorem dX1_addFork_47 : decode cX1_addFork 47 = .ok (.bipush 40, 2) := by decide +kernel
theorem dX1_addFork_49 : decode cX1_addFork 49 = .ok (.if_icmp .ne 9, 3) := by decide +kernel
theorem dX1_addFork_52 : decode cX1_addFork 52 = .ok (.aload_n 0, 1) := by decide +kernel
theorem dX1_addFork_53 : decode cX1_addFork 53 = .ok (.iconst 3, 1) := by decide +kernel
theorem dX1_addFork_54 : decode cX1_addFork 54 = .ok (.invokevirtual 96, 3) := by decide +kernel
theorem dX1_addFork_57 : decode cX1_addFork 57 = .ok (.ireturn, 1) := by decide +kernel
theorem dX1_addFork_58 : decode cX1_addFork 58 = .ok (.aload_n 0, 1) := by decide +kernel
theorem dX1_addFork_59 : decode cX1_addFork 59 = .ok (.getfield 9, 3) := by decide +kernel
theorem dX1_addFork_62 : decode cX1_addFork 62 = .ok (.aload_n 0, 1) := by decide +kernel
theorem dX1_addFork_63 : decode cX1_addFork 63 = .ok (.getfield 46, 3) := by decide +kernel
theorem dX1_addFork_66 : decode cX1_addFork 66 = .ok (.iconst 1, 1) := by decide +kernel
theorem dX1_addFork_67 : decode cX1_addFork 67 = .ok (.bastore, 1) := by decide +kernel
theorem dX1_addFork_68 : decode cX1_addFork 68 = .ok (.aload_n 0, 1) := by decide +kernel
theorem dX1_addFork_69 : decode cX1_addFork 69 = .ok (.getfield 13, 3) := by decide +kernel
theorem dX1_addFork_72 : decode cX1_addFork 72 = .ok (.aload_n 0, 1) := by decide +kernel
theorem dX1_addFork_73 : decode cX1_addFork 73 = .ok (.getfield 46, 3) := by decide +kernel
theorem dX1_addFork_76 : decode cX1_addFork 76 = .ok (.iload_n 1, 1) := by decide +kernel
theorem dX1_addFork_77 : decode cX1_addFork 77 = .ok (.iastore, 1) := by decide +kernel
theorem dX1_addFork_78 : decode cX1_addFork 78 = .ok (.aload_n 0, 1) := by decide +kernel
theorem dX1_addFork_79 : decode cX1_addFork 79 = .ok (.getfield 17, 3) := by decide +kernel
theorem dX1_addFork_82 : decode cX1_addFork 82 = .ok (.aload_n 0, 1) := by decide +kernel
theorem dX1_addFork_83 : decode cX1_addFork 83 = .ok (.getfield 46, 3) := by decide +kernel
theorem dX1_addFork_86 : decode cX1_addFork 86 = .ok (.iload_n 2, 1) := by decide +kernel
theorem dX1_addFork_87 : decode cX1_addFork 87 = .ok (.iastore, 1) := by decide +kernel
theorem dX1_addFork_88 : decode cX1_addFork 88 = .ok (.aload_n 0, 1) := by decide +kernel
theorem dX1_addFork_89 : decode cX1_addFork 89 = .ok (.getfield 20, 3) := by decide +kernel
theorem dX1_addFork_92 : decode cX1_addFork 92 = .ok (.aload_n 0, 1) := by decide +kernel
theorem dX1_addFork_93 : decode cX1_addFork 93 = .ok (.getfield 46, 3) := by decide +kernel
theorem dX1_addFork_96 : decode cX1_addFork 96 = .ok (.iload_n 3, 1) := by decide +kernel
theorem dX1_addFork_97 : decode cX1_addFork 97 = .ok (.iastore, 1) := by decide +kernel
theorem dX1_addFork_98 : decode cX1_addFork 98 = .ok (.aload_n 0, 1) := by decide +kernel
theorem dX1_addFork_99 : decode cX1_addFork 99 = .ok (.getfield 23, 3) := by decide +kernel
theorem dX1_addFork_102 : decode cX1_addFork 102 = .ok (.aload_n 0, 1) := by decide +kernel
theorem dX1_addFork_103 : decode cX1_addFork 103 = .ok (.getfield 46, 3) := by decide +kernel
theorem dX1_addFork_106 : decode cX1_addFork 106 = .ok (.aload_n 0, 1) := by decide +kernel
theorem dX1_addFork_107 : decode cX1_addFork 107 = .ok (.getfield 23, 3) := by decide +kernel
theorem dX1_addFork_110 : decode cX1_addFork 110 = .ok (.iload_n 1, 1) := by decide +kernel
theorem dX1_addFork_111 : decode cX1_addFork 111 = .ok (.laload, 1) := by decide +kernel
theorem dX1_addFork_112 : decode cX1_addFork 112 = .ok (.aload_n 0, 1) := by decide +kernel
theorem dX1_addFork_113 : decode cX1_addFork 113 = .ok (.getfield 23, 3) := by decide +kernel
theorem dX1_addFork_116 : decode cX1_addFork 116 = .ok (.iload_n 2, 1) := by decide +kernel
theorem dX1_addFork_117 : decode cX1_addFork 117 = .ok (.laload, 1) := by decide +kernel
theorem dX1_addFork_118 : decode cX1_addFork 118 = .ok (.lor, 1) := by decide +kernel
theorem dX1_addFork_119 : decode cX1_addFork 119 = .ok (.lconst 1, 1) := by decide +kernel
theorem dX1_addFork_120 : decode cX1_addFork 120 = .ok (.aload_n 0, 1) := by decide +kernel
theorem dX1_addFork_121 : decode cX1_addFork 121 = .ok (.getfield 46, 3) := by decide +kernel
theorem dX1_addFork_124 : decode cX1_addFork 124 = .ok (.lshl, 1) := by decide +kernel
theorem dX1_addFork_125 : decode cX1_addFork 125 = .ok (.lor, 1) := by decide +kernel
theorem dX1_addFork_126 : decode cX1_addFork 126 = .ok (.lastore, 1) := by decide +kernel
theorem dX1_addFork_127 : decode cX1_addFork 127 = .ok (.aload_n 0, 1) := by decide +kernel
theorem dX1_addFork_128 : decode cX1_addFork 128 = .ok (.dup, 1) := by decide +kernel
theorem dX1_addFork_129 : decode cX1_addFork 129 = .ok (.getfield 46, 3) := by decide +kernel
theorem dX1_addFork_132 : decode cX1_addFork 132 = .ok (.iconst 1, 1) := by decide +kernel
theorem dX1_addFork_133 : decode cX1_addFork 133 = .ok (.iadd, 1) := by decide +kernel
theorem dX1_addFork_134 : decode cX1_addFork 134 = .ok (.putfield 46, 3) := by decide +kernel
theorem dX1_addFork_137 : decode cX1_addFork 137 = .ok (.aload_n 0, 1) := by decide +kernel
theorem dX1_addFork_138 : decode cX1_addFork 138 = .ok (.getfield 46, 3) := by decide +kernel
theorem dX1_addFork_141 : decode cX1_addFork 141 = .ok (.iconst 1, 1) := by decide +kernel
theorem dX1_addFork_142 : decode cX1_addFork 142 = .ok (.isub, 1) := by decide +kernel
theorem dX1_addFork_143 : decode cX1_addFork 143 = .ok (.ireturn, 1) := by decide +kernel
theorem dX1_gradedNow_0 : decode cX1_gradedNow 0 = .ok (.iconst 0, 1) := by decide +kernel
theorem dX1_gradedNow_1 : decode cX1_gradedNow 1 = .ok (.istore_n 1, 1) := by decide +kernel
theorem dX1_gradedNow_2 : decode cX1_gradedNow 2 = .ok (.iconst 0, 1) := by decide +kernel
theorem dX1_gradedNow_3 : decode cX1_gradedNow 3 = .ok (.istore_n 2, 1) := by decide +kernel
theorem dX1_gradedNow_4 : decode cX1_gradedNow 4 = .ok (.iload_n 2, 1) := by decide +kernel
theorem dX1_gradedNow_5 : decode cX1_gradedNow 5 = .ok (.aload_n 0, 1) := by decide +kernel
theorem dX1_gradedNow_6 : decode cX1_gradedNow 6 = .ok (.getfield 46, 3) := by decide +kernel
theorem dX1_gradedNow_9 : decode cX1_gradedNow 9 = .ok (.if_icmp .ge 36, 3) := by decide +kernel
theorem dX1_gradedNow_12 : decode cX1_gradedNow 12 = .ok (.iload_n 1, 1) := by decide +kernel
theorem dX1_gradedNow_13 : decode cX1_gradedNow 13 = .ok (.aload_n 0, 1) := by decide +kernel
theorem dX1_gradedNow_14 : decode cX1_gradedNow 14 = .ok (.getfield 9, 3) := by decide +kernel
theorem dX1_gradedNow_17 : decode cX1_gradedNow 17 = .ok (.iload_n 2, 1) := by decide +kernel
theorem dX1_gradedNow_18 : decode cX1_gradedNow 18 = .ok (.baload, 1) := by decide +kernel
theorem dX1_gradedNow_19 : decode cX1_gradedNow 19 = .ok (.ifCond .ne 17, 3) := by decide +kernel
theorem dX1_gradedNow_22 : decode cX1_gradedNow 22 = .ok (.aload_n 0, 1) := by decide +kernel
theorem dX1_gradedNow_23 : decode cX1_gradedNow 23 = .ok (.getfield 20, 3) := by decide +kernel
theorem dX1_gradedNow_26 : decode cX1_gradedNow 26 = .ok (.iload_n 2, 1) := by decide +kernel
theorem dX1_gradedNow_27 : decode cX1_gradedNow 27 = .ok (.iaload, 1) := by decide +kernel
theorem dX1_gradedNow_28 : decode cX1_gradedNow 28 = .ok (.iconst (-1), 1) := by decide +kernel
theorem dX1_gradedNow_29 : decode cX1_gradedNow 29 = .ok (.if_icmp .eq 7, 3) := by decide +kernel
theorem dX1_gradedNow_32 : decode cX1_gradedNow 32 = .ok (.iconst 1, 1) := by decide +kernel
theorem dX1_gradedNow_33 : decode cX1_gradedNow 33 = .ok (.goto 4, 3) := by decide +kernel
theorem dX1_gradedNow_36 : decode cX1_gradedNow 36 = .ok (.iconst 0, 1) := by decide +kernel
theorem dX1_gradedNow_37 : decode cX1_gradedNow 37 = .ok (.iadd, 1) := by decide +kernel
theorem dX1_gradedNow_38 : decode cX1_gradedNow 38 = .ok (.istore_n 1, 1) := by decide +kernel
theorem dX1_gradedNow_39 : decode cX1_gradedNow 39 = .ok (.iinc 2 1, 3) := by decide +kernel
theorem dX1_gradedNow_42 : decode cX1_gradedNow 42 = .ok (.goto (-38), 3) := by decide +kernel
theorem dX1_gradedNow_45 : decode cX1_gradedNow 45 = .ok (.iload_n 1, 1) := by decide +kernel
theorem dX1_gradedNow_46 : decode cX1_gradedNow 46 = .ok (.ireturn, 1) := by decide +kernel
set_option maxRecDepth 20000 in
theorem ggX1_grade_X1_isExamAt : GoodIn wsX1_grade wsX1_isExamAt := goodIn_r _ [9, 10, 11, 12, 13, 8, 14, 15, 16, 17, 18, 27, 28, 29, 30, 31, 32, 33, 34, 35, 36, 37, 38, 39] (by decide +kernel) (by decide +kernel)
set_option maxRecDepth 20000 in
theorem gX1_grade_X1_isExamAt : GoodIn wsX1_grade (wsV RX1 99 RX1 yX1_isExamAt wsX1_isExamAt) := goodIn_app (goodIn_of _ (by decide +kernel)) ggX1_grade_X1_isExamAt
set_option maxRecDepth 20000 in
theorem ggX1_grade_X1_no : GoodIn wsX1_grade wsX1_no := goodIn_r _ [22, 1, 27, 28, 29, 30, 31, 32, 33, 34, 35, 36, 37, 38, 39] (by decide +kernel) (by decide +kernel)
set_option maxRecDepth 20000 in
theorem gX1_grade_X1_no : GoodIn wsX1_grade (wsV RX1 96 RX1 yX1_no wsX1_no) := goodIn_app (goodIn_of _ (by decide +kernel)) ggX1_grade_X1_no
set_option maxRecDepth 20000 in
theorem ggX1_grade_X1_isIn : GoodIn wsX1_grade wsX1_isIn := goodIn_r _ [18] (by decide +kernel) (by decide +kernel)
set_option maxRecDepth 20000 in
theorem gX1_grade_X1_isIn : GoodIn wsX1_grade (va_wsS RX1 49 yX1_isIn wsX1_isIn) := goodIn_app (goodIn_of _ (by decide +kernel)) ggX1_grade_X1_isIn
set_option maxRecDepth 20000 in
theorem ggX1_grade_X1_gradedNow : GoodIn wsX1_grade wsX1_gradedNow := goodIn_r _ [26, 15, 10, 4, 27, 28, 29, 30, 31, 32, 33, 34, 35, 36, 37, 38, 39] (by decide +kernel) (by decide +kernel)
set_option maxRecDepth 20000 in
theorem gX1_grade_X1_gradedNow : GoodIn wsX1_grade (wsV RX1 102 RX1 yX1_gradedNow wsX1_gradedNow) := goodIn_app (goodIn_of _ (by decide +kernel)) ggX1_grade_X1_gradedNow
theorem dX1_grade_0 : decode cX1_grade 0 = .ok (.aload_n 0, 1) := by decide +kernel
theorem dX1_grade_1 : decode cX1_grade 1 = .ok (.iconst 0, 1) := by decide +kernel
theorem dX1_grade_2 : decode cX1_grade 2 = .ok (.putfield 42, 3) := by decide +kernel
theorem dX1_grade_5 : decode cX1_grade 5 = .ok (.aload_n 0, 1) := by decide +kernel
theorem dX1_grade_6 : decode cX1_grade 6 = .ok (.iload_n 1, 1) := by decide +kernel
theorem dX1_grade_7 : decode cX1_grade 7 = .ok (.invokevirtual 99, 3) := by decide +kernel
theorem dX1_grade_10 : decode cX1_grade 10 = .ok (.ifCond .ne 9, 3) := by decide +kernel
theorem dX1_grade_13 : decode cX1_grade 13 = .ok (.aload_n 0, 1) := by decide +kernel
theorem dX1_grade_14 : decode cX1_grade 14 = .ok (.iconst 1, 1) := by decide +kernel
theorem dX1_grade_15 : decode cX1_grade 15 = .ok (.invokevirtual 96, 3) := by decide +kernel
theorem dX1_grade_18 : decode cX1_grade 18 = .ok (.ireturn, 1) := by decide +kernel
theorem dX1_grade_19 : decode cX1_grade 19 = .ok (.iload_n 2, 1) := by decide +kernel
theorem dX1_grade_20 : decode cX1_grade 20 = .ok (.aload_n 0, 1) := by decide +kernel
theorem dX1_grade_21 : decode cX1_grade 21 = .ok (.getfield 13, 3) := by decide +kernel
theorem dX1_grade_24 : decode cX1_grade 24 = .ok (.iload_n 1, 1) := by decide +kernel
theorem dX1_grade_25 : decode cX1_grade 25 = .ok (.iaload, 1) := by decide +kernel
theorem dX1_grade_26 : decode cX1_grade 26 = .ok (.aload_n 0, 1) := by decide +kernel
theorem dX1_grade_27 : decode cX1_grade 27 = .ok (.getfield 17, 3) := by decide +kernel
theorem dX1_grade_30 : decode cX1_grade 30 = .ok (.iload_n 1, 1) := by decide +kernel
theorem dX1_grade_31 : decode cX1_grade 31 = .ok (.iaload, 1) := by decide +kernel
theorem dX1_grade_32 : decode cX1_grade 32 = .ok (.invokestatic 49, 3) := by decide +kernel
theorem dX1_grade_35 : decode cX1_grade 35 = .ok (.ifCond .ne 9, 3) := by decide +kernel
theorem dX1_grade_38 : decode cX1_grade 38 = .ok (.aload_n 0, 1) := by decide +kernel
theorem dX1_grade_39 : decode cX1_grade 39 = .ok (.iconst 2, 1) := by decide +kernel
theorem dX1_grade_40 : decode cX1_grade 40 = .ok (.invokevirtual 96, 3) := by decide +kernel
theorem dX1_grade_43 : decode cX1_grade 43 = .ok (.ireturn, 1) := by decide +kernel
theorem dX1_grade_44 : decode cX1_grade 44 = .ok (.aload_n 0, 1) := by decide +kernel
theorem dX1_grade_45 : decode cX1_grade 45 = .ok (.getfield 20, 3) := by decide +kernel
theorem dX1_grade_48 : decode cX1_grade 48 = .ok (.iload_n 1, 1) := by decide +kernel
theorem dX1_grade_49 : decode cX1_grade 49 = .ok (.iaload, 1) := by decide +kernel
theorem dX1_grade_50 : decode cX1_grade 50 = .ok (.iconst (-1), 1) := by decide +kernel
theorem dX1_grade_51 : decode cX1_grade 51 = .ok (.if_icmp .eq 9, 3) := by decide +kernel
theorem dX1_grade_54 : decode cX1_grade 54 = .ok (.aload_n 0, 1) := by decide +kernel
theorem dX1_grade_55 : decode cX1_grade 55 = .ok (.iconst 3, 1) := by decide +kernel
theorem dX1_grade_56 : decode cX1_grade 56 = .ok (.invokevirtual 96, 3) := by decide +kernel
theorem dX1_grade_59 : decode cX1_grade 59 = .ok (.ireturn, 1) := by decide +kernel
theorem dX1_grade_60 : decode cX1_grade 60 = .ok (.aload_n 0, 1) := by decide +kernel
theorem dX1_grade_61 : decode cX1_grade 61 = .ok (.getfield 20, 3) := by decide +kernel
theorem dX1_grade_64 : decode cX1_grade 64 = .ok (.iload_n 1, 1) := by decide +kernel
theorem dX1_grade_65 : decode cX1_grade 65 = .ok (.iload_n 2, 1) := by decide +kernel
theorem dX1_grade_66 : decode cX1_grade 66 = .ok (.iastore, 1) := by decide +kernel
theorem dX1_grade_67 : decode cX1_grade 67 = .ok (.aload_n 0, 1) := by decide +kernel
theorem dX1_grade_68 : decode cX1_grade 68 = .ok (.invokevirtual 102, 3) := by decide +kernel
theorem dX1_grade_71 : decode cX1_grade 71 = .ok (.ireturn, 1) := by decide +kernel
set_option maxRecDepth 20000 in
theorem ggX1_weigh_X1_isForkAt : GoodIn wsX1_weigh wsX1_isForkAt := goodIn_r _ [7, 8, 9, 10, 11, 6, 12, 13, 14, 15, 16, 21, 22, 23, 24, 25, 26, 27, 28, 29, 30, 31, 32, 33] (by decide +kernel) (by decide +kernel)
set_option maxRecDepth 20000 in
theorem gX1_weigh_X1_isForkAt : GoodIn wsX1_weigh (wsV RX1 106 RX1 yX1_isForkAt wsX1_isForkAt) := goodIn_app (goodIn_of _ (by decide +kernel)) ggX1_weigh_X1_isForkAt
set_option maxRecDepth 20000 in
theorem ggX1_weigh_X1_no : GoodIn wsX1_weigh wsX1_no := goodIn_r _ [20, 1, 21, 22, 23, 24, 25, 26, 27, 28, 29, 30, 31, 32, 33] (by decide +kernel) (by decide +kernel)
set_option maxRecDepth 20000 in
theorem gX1_weigh_X1_no : GoodIn wsX1_weigh (wsV RX1 96 RX1 yX1_no wsX1_no) := goodIn_app (goodIn_of _ (by decide +kernel)) ggX1_weigh_X1_no
set_option maxRecDepth 20000 in
theorem ggX1_weigh_X1_isIn : GoodIn wsX1_weigh wsX1_isIn := goodIn_r _ [16] (by decide +kernel) (by decide +kernel)
set_option maxRecDepth 20000 in
theorem gX1_weigh_X1_isIn : GoodIn wsX1_weigh (va_wsS RX1 49 yX1_isIn wsX1_isIn) := goodIn_app (goodIn_of _ (by decide +kernel)) ggX1_weigh_X1_isIn
theorem dX1_weigh_0 : decode cX1_weigh 0 = .ok (.aload_n 0, 1) := by decide +kernel
theorem dX1_weigh_1 : decode cX1_weigh 1 = .ok (.iconst 0, 1) := by decide +kernel
theorem dX1_weigh_2 : decode cX1_weigh 2 = .ok (.putfield 42, 3) := by decide +kernel
theorem dX1_weigh_5 : decode cX1_weigh 5 = .ok (.aload_n 0, 1) := by decide +kernel
theorem dX1_weigh_6 : decode cX1_weigh 6 = .ok (.iload_n 1, 1) := by decide +kernel
theorem dX1_weigh_7 : decode cX1_weigh 7 = .ok (.invokevirtual 106, 3) := by decide +kernel
theorem dX1_weigh_10 : decode cX1_weigh 10 = .ok (.ifCond .ne 9, 3) := by decide +kernel
theorem dX1_weigh_13 : decode cX1_weigh 13 = .ok (.aload_n 0, 1) := by decide +kernel
theorem dX1_weigh_14 : decode cX1_weigh 14 = .ok (.iconst 1, 1) := by decide +kernel
theorem dX1_weigh_15 : decode cX1_weigh 15 = .ok (.invokevirtual 96, 3) := by decide +kernel
theorem dX1_weigh_18 : decode cX1_weigh 18 = .ok (.ireturn, 1) := by decide +kernel
theorem dX1_weigh_19 : decode cX1_weigh 19 = .ok (.iload_n 2, 1) := by decide +kernel
theorem dX1_weigh_20 : decode cX1_weigh 20 = .ok (.iconst 1, 1) := by decide +kernel
theorem dX1_weigh_21 : decode cX1_weigh 21 = .ok (.bipush 9, 2) := by decide +kernel
theorem dX1_weigh_23 : decode cX1_weigh 23 = .ok (.invokestatic 49, 3) := by decide +kernel
theorem dX1_weigh_26 : decode cX1_weigh 26 = .ok (.ifCond .ne 9, 3) := by decide +kernel
theorem dX1_weigh_29 : decode cX1_weigh 29 = .ok (.aload_n 0, 1) := by decide +kernel
theorem dX1_weigh_30 : decode cX1_weigh 30 = .ok (.iconst 2, 1) := by decide +kernel
theorem dX1_weigh_31 : decode cX1_weigh 31 = .ok (.invokevirtual 96, 3) := by decide +kernel
theorem dX1_weigh_34 : decode cX1_weigh 34 = .ok (.ireturn, 1) := by decide +kernel
theorem dX1_weigh_35 : decode cX1_weigh 35 = .ok (.aload_n 0, 1) := by decide +kernel
theorem dX1_weigh_36 : decode cX1_weigh 36 = .ok (.getfield 20, 3) := by decide +kernel
theorem dX1_weigh_39 : decode cX1_weigh 39 = .ok (.iload_n 1, 1) := by decide +kernel
theorem dX1_weigh_40 : decode cX1_weigh 40 = .ok (.iaload, 1) := by decide +kernel
theorem dX1_weigh_41 : decode cX1_weigh 41 = .ok (.istore_n 3, 1) := by decide +kernel
theorem dX1_weigh_42 : decode cX1_weigh 42 = .ok (.aload_n 0, 1) := by decide +kernel
theorem dX1_weigh_43 : decode cX1_weigh 43 = .ok (.getfield 20, 3) := by decide +kernel
theorem dX1_weigh_46 : decode cX1_weigh 46 = .ok (.iload_n 1, 1) := by decide +kernel
theorem dX1_weigh_47 : decode cX1_weigh 47 = .ok (.iload_n 2, 1) := by decide +kernel
theorem dX1_weigh_48 : decode cX1_weigh 48 = .ok (.iastore, 1) := by decide +kernel
theorem dX1_weigh_49 : decode cX1_weigh 49 = .ok (.iload_n 3, 1) := by decide +kernel
theorem dX1_weigh_50 : decode cX1_weigh 50 = .ok (.ireturn, 1) := by decide +kernel
set_option maxRecDepth 20000 in
theorem ggX1_enroll_X1_isPlace : GoodIn wsX1_enroll wsX1_isPlace := goodIn_r _ [8, 9, 10, 11, 7, 12, 17, 18, 19, 20, 21, 22, 23, 24, 25, 26, 27, 28, 29] (by decide +kernel) (by decide +kernel)
set_option maxRecDepth 20000 in
theorem gX1_enroll_X1_isPlace : GoodIn wsX1_enroll (wsV RX1 53 RX1 yX1_isPlace wsX1_isPlace) := goodIn_app (goodIn_of _ (by decide +kernel)) ggX1_enroll_X1_isPlace
set_option maxRecDepth 20000 in
theorem ggX1_enroll_X1_no : GoodIn wsX1_enroll wsX1_no := goodIn_r _ [16, 1, 17, 18, 19, 20, 21, 22, 23, 24, 25, 26, 27, 28, 29] (by decide +kernel) (by decide +kernel)
set_option maxRecDepth 20000 in
theorem gX1_enroll_X1_no : GoodIn wsX1_enroll (wsV RX1 96 RX1 yX1_no wsX1_no) := goodIn_app (goodIn_of _ (by decide +kernel)) ggX1_enroll_X1_no
theorem dX1_enroll_0 : decode cX1_enroll 0 = .ok (.aload_n 0, 1) := by decide +kernel
theorem dX1_enroll_1 : decode cX1_enroll 1 = .ok (.iconst 0, 1) := by decide +kernel
theorem dX1_enroll_2 : decode cX1_enroll 2 = .ok (.putfield 42, 3) := by decide +kernel
theorem dX1_enroll_5 : decode cX1_enroll 5 = .ok (.aload_n 0, 1) := by decide +kernel
theorem dX1_enroll_6 : decode cX1_enroll 6 = .ok (.iload_n 1, 1) := by decide +kernel
theorem dX1_enroll_7 : decode cX1_enroll 7 = .ok (.invokevirtual 53, 3) := by decide +kernel
theorem dX1_enroll_10 : decode cX1_enroll 10 = .ok (.ifCond .ne 9, 3) := by decide +kernel
theorem dX1_enroll_13 : decode cX1_enroll 13 = .ok (.aload_n 0, 1) := by decide +kernel
theorem dX1_enroll_14 : decode cX1_enroll 14 = .ok (.iconst 1, 1) := by decide +kernel
theorem dX1_enroll_15 : decode cX1_enroll 15 = .ok (.invokevirtual 96, 3) := by decide +kernel
theorem dX1_enroll_18 : decode cX1_enroll 18 = .ok (.ireturn, 1) := by decide +kernel
theorem dX1_enroll_19 : decode cX1_enroll 19 = .ok (.aload_n 0, 1) := by decide +kernel
theorem dX1_enroll_20 : decode cX1_enroll 20 = .ok (.getfield 57, 3) := by decide +kernel
theorem dX1_enroll_23 : decode cX1_enroll 23 = .ok (.bipush 8, 2) := by decide +kernel
theorem dX1_enroll_25 : decode cX1_enroll 25 = .ok (.if_icmp .ne 9, 3) := by decide +kernel
theorem dX1_enroll_28 : decode cX1_enroll 28 = .ok (.aload_n 0, 1) := by decide +kernel
theorem dX1_enroll_29 : decode cX1_enroll 29 = .ok (.iconst 2, 1) := by decide +kernel
theorem dX1_enroll_30 : decode cX1_enroll 30 = .ok (.invokevirtual 96, 3) := by decide +kernel
theorem dX1_enroll_33 : decode cX1_enroll 33 = .ok (.ireturn, 1) := by decide +kernel
theorem dX1_enroll_34 : decode cX1_enroll 34 = .ok (.aload_n 0, 1) := by decide +kernel
theorem dX1_enroll_35 : decode cX1_enroll 35 = .ok (.getfield 33, 3) := by decide +kernel
theorem dX1_enroll_38 : decode cX1_enroll 38 = .ok (.aload_n 0, 1) := by decide +kernel
theorem dX1_enroll_39 : decode cX1_enroll 39 = .ok (.getfield 57, 3) := by decide +kernel
theorem dX1_enroll_42 : decode cX1_enroll 42 = .ok (.iload_n 1, 1) := by decide +kernel
theorem dX1_enroll_43 : decode cX1_enroll 43 = .ok (.iastore, 1) := by decide +kernel
theorem dX1_enroll_44 : decode cX1_enroll 44 = .ok (.aload_n 0, 1) := by decide +kernel
theorem dX1_enroll_45 : decode cX1_enroll 45 = .ok (.dup, 1) := by decide +kernel
theorem dX1_enroll_46 : decode cX1_enroll 46 = .ok (.getfield 57, 3) := by decide +kernel
theorem dX1_enroll_49 : decode cX1_enroll 49 = .ok (.iconst 1, 1) := by decide +kernel
theorem dX1_enroll_50 : decode cX1_enroll 50 = .ok (.iadd, 1) := by decide +kernel
theorem dX1_enroll_51 : decode cX1_enroll 51 = .ok (.putfield 57, 3) := by decide +kernel
theorem dX1_enroll_54 : decode cX1_enroll 54 = .ok (.aload_n 0, 1) := by decide +kernel
theorem dX1_enroll_55 : decode cX1_enroll 55 = .ok (.getfield 57, 3) := by decide +kernel
theorem dX1_enroll_58 : decode cX1_enroll 58 = .ok (.iconst 1, 1) := by decide +kernel
theorem dX1_enroll_59 : decode cX1_enroll 59 = .ok (.isub, 1) := by decide +kernel
theorem dX1_enroll_60 : decode cX1_enroll 60 = .ok (.ireturn, 1) := by decide +kernel
theorem dX1_go_0 : decode cX1_go 0 = .ok (.aload_n 0, 1) := by decide +kernel
theorem dX1_go_1 : decode cX1_go 1 = .ok (.getfield 39, 3) := by decide +kernel
theorem dX1_go_4 : decode cX1_go 4 = .ok (.bipush 40, 2) := by decide +kernel
theorem dX1_go_6 : decode cX1_go 6 = .ok (.iload_n 1, 1) := by decide +kernel
theorem dX1_go_7 : decode cX1_go 7 = .ok (.imul, 1) := by decide +kernel
theorem dX1_go_8 : decode cX1_go 8 = .ok (.aload_n 0, 1) := by decide +kernel
theorem dX1_go_9 : decode cX1_go 9 = .ok (.getfield 36, 3) := by decide +kernel
theorem dX1_go_12 : decode cX1_go 12 = .ok (.iload_n 1, 1) := by decide +kernel
theorem dX1_go_13 : decode cX1_go 13 = .ok (.iaload, 1) := by decide +kernel
theorem dX1_go_14 : decode cX1_go 14 = .ok (.iadd, 1) := by decide +kernel
theorem dX1_go_15 : decode cX1_go 15 = .ok (.aload_n 0, 1) := by decide +kernel
theorem dX1_go_16 : decode cX1_go 16 = .ok (.getfield 33, 3) := by decide +kernel
theorem dX1_go_19 : decode cX1_go 19 = .ok (.iload_n 1, 1) := by decide +kernel
theorem dX1_go_20 : decode cX1_go 20 = .ok (.iaload, 1) := by decide +kernel
theorem dX1_go_21 : decode cX1_go 21 = .ok (.iastore, 1) := by decide +kernel
theorem dX1_go_22 : decode cX1_go 22 = .ok (.aload_n 0, 1) := by decide +kernel
theorem dX1_go_23 : decode cX1_go 23 = .ok (.getfield 36, 3) := by decide +kernel
theorem dX1_go_26 : decode cX1_go 26 = .ok (.iload_n 1, 1) := by decide +kernel
theorem dX1_go_27 : decode cX1_go 27 = .ok (.dup2, 1) := by decide +kernel
theorem dX1_go_28 : decode cX1_go 28 = .ok (.iaload, 1) := by decide +kernel
theorem dX1_go_29 : decode cX1_go 29 = .ok (.iconst 1, 1) := by decide +kernel
theorem dX1_go_30 : decode cX1_go 30 = .ok (.iadd, 1) := by decide +kernel
theorem dX1_go_31 : decode cX1_go 31 = .ok (.iastore, 1) := by decide +kernel
theorem dX1_go_32 : decode cX1_go 32 = .ok (.aload_n 0, 1) := by decide +kernel
theorem dX1_go_33 : decode cX1_go 33 = .ok (.getfield 33, 3) := by decide +kernel
theorem dX1_go_36 : decode cX1_go 36 = .ok (.iload_n 1, 1) := by decide +kernel
theorem dX1_go_37 : decode cX1_go 37 = .ok (.iload_n 2, 1) := by decide +kernel
theorem dX1_go_38 : decode cX1_go 38 = .ok (.iastore, 1) := by decide +kernel
theorem dX1_go_39 : decode cX1_go 39 = .ok (.return_, 1) := by decide +kernel
set_option maxRecDepth 20000 in
theorem ggX1_turn_X1_isStudent : GoodIn wsX1_turn wsX1_isStudent := goodIn_r _ [10, 11, 12, 13, 9, 14, 25, 26, 27, 28, 29, 30, 31, 32, 33, 34, 35, 36, 37] (by decide +kernel) (by decide +kernel)
set_option maxRecDepth 20000 in
theorem gX1_turn_X1_isStudent : GoodIn wsX1_turn (wsV RX1 109 RX1 yX1_isStudent wsX1_isStudent) := goodIn_app (goodIn_of _ (by decide +kernel)) ggX1_turn_X1_isStudent
set_option maxRecDepth 20000 in
theorem ggX1_turn_X1_no : GoodIn wsX1_turn wsX1_no := goodIn_r _ [18, 1, 25, 26, 27, 28, 29, 30, 31, 32, 33, 34, 35, 36, 37] (by decide +kernel) (by decide +kernel)
set_option maxRecDepth 20000 in
theorem gX1_turn_X1_no : GoodIn wsX1_turn (wsV RX1 96 RX1 yX1_no wsX1_no) := goodIn_app (goodIn_of _ (by decide +kernel)) ggX1_turn_X1_no
set_option maxRecDepth 20000 in
theorem ggX1_turn_X1_go : GoodIn wsX1_turn wsX1_go := goodIn_r _ [22, 23, 24, 2, 25, 26, 27, 28, 29, 30, 31, 32, 33, 34, 35, 36, 37] (by decide +kernel) (by decide +kernel)
set_option maxRecDepth 20000 in
theorem gX1_turn_X1_go : GoodIn wsX1_turn (wsV RX1 112 RX1 yX1_go wsX1_go) := goodIn_app (goodIn_of _ (by decide +kernel)) ggX1_turn_X1_go
theorem dX1_turn_0 : decode cX1_turn 0 = .ok (.aload_n 0, 1) := by decide +kernel
theorem dX1_turn_1 : decode cX1_turn 1 = .ok (.iconst 0, 1) := by decide +kernel
theorem dX1_turn_2 : decode cX1_turn 2 = .ok (.putfield 42, 3) := by decide +kernel
theorem dX1_turn_5 : decode cX1_turn 5 = .ok (.aload_n 0, 1) := by decide +kernel
theorem dX1_turn_6 : decode cX1_turn 6 = .ok (.iload_n 1, 1) := by decide +kernel
theorem dX1_turn_7 : decode cX1_turn 7 = .ok (.invokevirtual 109, 3) := by decide +kernel
theorem dX1_turn_10 : decode cX1_turn 10 = .ok (.ifCond .ne 9, 3) := by decide +kernel
theorem dX1_turn_13 : decode cX1_turn 13 = .ok (.aload_n 0, 1) := by decide +kernel
theorem dX1_turn_14 : decode cX1_turn 14 = .ok (.iconst 1, 1) := by decide +kernel
theorem dX1_turn_15 : decode cX1_turn 15 = .ok (.invokevirtual 96, 3) := by decide +kernel
theorem dX1_turn_18 : decode cX1_turn 18 = .ok (.ireturn, 1) := by decide +kernel
theorem dX1_turn_19 : decode cX1_turn 19 = .ok (.aload_n 0, 1) := by decide +kernel
theorem dX1_turn_20 : decode cX1_turn 20 = .ok (.getfield 33, 3) := by decide +kernel
theorem dX1_turn_23 : decode cX1_turn 23 = .ok (.iload_n 1, 1) := by decide +kernel
theorem dX1_turn_24 : decode cX1_turn 24 = .ok (.iaload, 1) := by decide +kernel
theorem dX1_turn_25 : decode cX1_turn 25 = .ok (.istore_n 3, 1) := by decide +kernel
theorem dX1_turn_26 : decode cX1_turn 26 = .ok (.aload_n 0, 1) := by decide +kernel
theorem dX1_turn_27 : decode cX1_turn 27 = .ok (.getfield 9, 3) := by decide +kernel
theorem dX1_turn_30 : decode cX1_turn 30 = .ok (.iload_n 3, 1) := by decide +kernel
theorem dX1_turn_31 : decode cX1_turn 31 = .ok (.baload, 1) := by decide +kernel
theorem dX1_turn_32 : decode cX1_turn 32 = .ok (.ifCond .ne 9, 3) := by decide +kernel
theorem dX1_turn_35 : decode cX1_turn 35 = .ok (.aload_n 0, 1) := by decide +kernel
theorem dX1_turn_36 : decode cX1_turn 36 = .ok (.iconst 2, 1) := by decide +kernel
theorem dX1_turn_37 : decode cX1_turn 37 = .ok (.invokevirtual 96, 3) := by decide +kernel
theorem dX1_turn_40 : decode cX1_turn 40 = .ok (.ireturn, 1) := by decide +kernel
theorem dX1_turn_41 : decode cX1_turn 41 = .ok (.aload_n 0, 1) := by decide +kernel
theorem dX1_turn_42 : decode cX1_turn 42 = .ok (.iload_n 1, 1) := by decide +kernel
theorem dX1_turn_43 : decode cX1_turn 43 = .ok (.iload_n 2, 1) := by decide +kernel
theorem dX1_turn_44 : decode cX1_turn 44 = .ok (.ifCond .eq 12, 3) := by decide +kernel
theorem dX1_turn_47 : decode cX1_turn 47 = .ok (.aload_n 0, 1) := by decide +kernel
theorem dX1_turn_48 : decode cX1_turn 48 = .ok (.getfield 17, 3) := by decide +kernel
theorem dX1_turn_51 : decode cX1_turn 51 = .ok (.iload_n 3, 1) := by decide +kernel
theorem dX1_turn_52 : decode cX1_turn 52 = .ok (.iaload, 1) := by decide +kernel
theorem dX1_turn_53 : decode cX1_turn 53 = .ok (.goto 9, 3) := by decide +kernel
theorem dX1_turn_56 : decode cX1_turn 56 = .ok (.aload_n 0, 1) := by decide +kernel
theorem dX1_turn_57 : decode cX1_turn 57 = .ok (.getfield 13, 3) := by decide +kernel
theorem dX1_turn_60 : decode cX1_turn 60 = .ok (.iload_n 3, 1) := by decide +kernel
theorem dX1_turn_61 : decode cX1_turn 61 = .ok (.iaload, 1) := by decide +kernel
theorem dX1_turn_62 : decode cX1_turn 62 = .ok (.invokevirtual 112, 3) := by decide +kernel
theorem dX1_turn_65 : decode cX1_turn 65 = .ok (.aload_n 0, 1) := by decide +kernel
theorem dX1_turn_66 : decode cX1_turn 66 = .ok (.getfield 33, 3) := by decide +kernel
theorem dX1_turn_69 : decode cX1_turn 69 = .ok (.iload_n 1, 1) := by decide +kernel
theorem dX1_turn_70 : decode cX1_turn 70 = .ok (.iaload, 1) := by decide +kernel
theorem dX1_turn_71 : decode cX1_turn 71 = .ok (.ireturn, 1) := by decide +kernel
set_option maxRecDepth 20000 in
theorem ggX1_goBack_X1_isStudent : GoodIn wsX1_goBack wsX1_isStudent := goodIn_r _ [9, 10, 11, 12, 8, 13, 18, 19, 20, 21, 22, 23, 24, 25, 26, 27, 28, 29, 30] (by decide +kernel) (by decide +kernel)
set_option maxRecDepth 20000 in
theorem gX1_goBack_X1_isStudent : GoodIn wsX1_goBack (wsV RX1 109 RX1 yX1_isStudent wsX1_isStudent) := goodIn_app (goodIn_of _ (by decide +kernel)) ggX1_goBack_X1_isStudent
set_option maxRecDepth 20000 in
theorem ggX1_goBack_X1_no : GoodIn wsX1_goBack wsX1_no := goodIn_r _ [17, 1, 18, 19, 20, 21, 22, 23, 24, 25, 26, 27, 28, 29, 30] (by decide +kernel) (by decide +kernel)
set_option maxRecDepth 20000 in
theorem gX1_goBack_X1_no : GoodIn wsX1_goBack (wsV RX1 96 RX1 yX1_no wsX1_no) := goodIn_app (goodIn_of _ (by decide +kernel)) ggX1_goBack_X1_no
theorem dX1_goBack_0 : decode cX1_goBack 0 = .ok (.aload_n 0, 1) := by decide +kernel
theorem dX1_goBack_1 : decode cX1_goBack 1 = .ok (.iconst 0, 1) := by decide +kernel
theorem dX1_goBack_2 : decode cX1_goBack 2 = .ok (.putfield 42, 3) := by decide +kernel
theorem dX1_goBack_5 : decode cX1_goBack 5 = .ok (.aload_n 0, 1) := by decide +kernel
theorem dX1_goBack_6 : decode cX1_goBack 6 = .ok (.iload_n 1, 1) := by decide +kernel
theorem dX1_goBack_7 : decode cX1_goBack 7 = .ok (.invokevirtual 109, 3) := by decide +kernel
theorem dX1_goBack_10 : decode cX1_goBack 10 = .ok (.ifCond .ne 9, 3) := by decide +kernel
theorem dX1_goBack_13 : decode cX1_goBack 13 = .ok (.aload_n 0, 1) := by decide +kernel
theorem dX1_goBack_14 : decode cX1_goBack 14 = .ok (.iconst 1, 1) := by decide +kernel
theorem dX1_goBack_15 : decode cX1_goBack 15 = .ok (.invokevirtual 96, 3) := by decide +kernel
theorem dX1_goBack_18 : decode cX1_goBack 18 = .ok (.ireturn, 1) := by decide +kernel
theorem dX1_goBack_19 : decode cX1_goBack 19 = .ok (.aload_n 0, 1) := by decide +kernel
theorem dX1_goBack_20 : decode cX1_goBack 20 = .ok (.getfield 36, 3) := by decide +kernel
theorem dX1_goBack_23 : decode cX1_goBack 23 = .ok (.iload_n 1, 1) := by decide +kernel
theorem dX1_goBack_24 : decode cX1_goBack 24 = .ok (.iaload, 1) := by decide +kernel
theorem dX1_goBack_25 : decode cX1_goBack 25 = .ok (.ifCond .ne 9, 3) := by decide +kernel
theorem dX1_goBack_28 : decode cX1_goBack 28 = .ok (.aload_n 0, 1) := by decide +kernel
theorem dX1_goBack_29 : decode cX1_goBack 29 = .ok (.iconst 2, 1) := by decide +kernel
theorem dX1_goBack_30 : decode cX1_goBack 30 = .ok (.invokevirtual 96, 3) := by decide +kernel
theorem dX1_goBack_33 : decode cX1_goBack 33 = .ok (.ireturn, 1) := by decide +kernel
theorem dX1_goBack_34 : decode cX1_goBack 34 = .ok (.aload_n 0, 1) := by decide +kernel
theorem dX1_goBack_35 : decode cX1_goBack 35 = .ok (.getfield 36, 3) := by decide +kernel
theorem dX1_goBack_38 : decode cX1_goBack 38 = .ok (.iload_n 1, 1) := by decide +kernel
theorem dX1_goBack_39 : decode cX1_goBack 39 = .ok (.dup2, 1) := by decide +kernel
theorem dX1_goBack_40 : decode cX1_goBack 40 = .ok (.iaload, 1) := by decide +kernel
theorem dX1_goBack_41 : decode cX1_goBack 41 = .ok (.iconst 1, 1) := by decide +kernel
theorem dX1_goBack_42 : decode cX1_goBack 42 = .ok (.isub, 1) := by decide +kernel
theorem dX1_goBack_43 : decode cX1_goBack 43 = .ok (.iastore, 1) := by decide +kernel
theorem dX1_goBack_44 : decode cX1_goBack 44 = .ok (.aload_n 0, 1) := by decide +kernel
theorem dX1_goBack_45 : decode cX1_goBack 45 = .ok (.getfield 33, 3) := by decide +kernel
theorem dX1_goBack_48 : decode cX1_goBack 48 = .ok (.iload_n 1, 1) := by decide +kernel
theorem dX1_goBack_49 : decode cX1_goBack 49 = .ok (.aload_n 0, 1) := by decide +kernel
theorem dX1_goBack_50 : decode cX1_goBack 50 = .ok (.getfield 39, 3) := by decide +kernel
theorem dX1_goBack_53 : decode cX1_goBack 53 = .ok (.bipush 40, 2) := by decide +kernel
theorem dX1_goBack_55 : decode cX1_goBack 55 = .ok (.iload_n 1, 1) := by decide +kernel
theorem dX1_goBack_56 : decode cX1_goBack 56 = .ok (.imul, 1) := by decide +kernel
theorem dX1_goBack_57 : decode cX1_goBack 57 = .ok (.aload_n 0, 1) := by decide +kernel
theorem dX1_goBack_58 : decode cX1_goBack 58 = .ok (.getfield 36, 3) := by decide +kernel
theorem dX1_goBack_61 : decode cX1_goBack 61 = .ok (.iload_n 1, 1) := by decide +kernel
theorem dX1_goBack_62 : decode cX1_goBack 62 = .ok (.iaload, 1) := by decide +kernel
theorem dX1_goBack_63 : decode cX1_goBack 63 = .ok (.iadd, 1) := by decide +kernel
theorem dX1_goBack_64 : decode cX1_goBack 64 = .ok (.iaload, 1) := by decide +kernel
theorem dX1_goBack_65 : decode cX1_goBack 65 = .ok (.iastore, 1) := by decide +kernel
theorem dX1_goBack_66 : decode cX1_goBack 66 = .ok (.aload_n 0, 1) := by decide +kernel
theorem dX1_goBack_67 : decode cX1_goBack 67 = .ok (.getfield 33, 3) := by decide +kernel
theorem dX1_goBack_70 : decode cX1_goBack 70 = .ok (.iload_n 1, 1) := by decide +kernel
theorem dX1_goBack_71 : decode cX1_goBack 71 = .ok (.iaload, 1) := by decide +kernel
theorem dX1_goBack_72 : decode cX1_goBack 72 = .ok (.ireturn, 1) := by decide +kernel
set_option maxRecDepth 20000 in
theorem ggX1_follow_X1_isStudent : GoodIn wsX1_follow wsX1_isStudent := goodIn_r _ [9, 10, 11, 12, 8, 13, 49, 50, 51, 52, 53, 54, 55, 56, 57, 58, 59, 60, 61] (by decide +kernel) (by decide +kernel)
set_option maxRecDepth 20000 in
theorem gX1_follow_X1_isStudent : GoodIn wsX1_follow (wsV RX1 109 RX1 yX1_isStudent wsX1_isStudent) := goodIn_app (goodIn_of _ (by decide +kernel)) ggX1_follow_X1_isStudent
set_option maxRecDepth 20000 in
theorem ggX1_follow_X1_no : GoodIn wsX1_follow wsX1_no := goodIn_r _ [17, 1, 49, 50, 51, 52, 53, 54, 55, 56, 57, 58, 59, 60, 61] (by decide +kernel) (by decide +kernel)
set_option maxRecDepth 20000 in
theorem gX1_follow_X1_no : GoodIn wsX1_follow (wsV RX1 96 RX1 yX1_no wsX1_no) := goodIn_app (goodIn_of _ (by decide +kernel)) ggX1_follow_X1_no
set_option maxRecDepth 20000 in
theorem ggX1_follow_X1_table : GoodIn wsX1_follow wsX1_table := goodIn_r _ [21, 22, 3, 23, 24, 25, 26, 27, 28, 29, 30, 31, 49, 50, 51, 52, 53, 54, 55, 56, 57, 58, 59, 60, 61] (by decide +kernel) (by decide +kernel)
set_option maxRecDepth 20000 in
theorem gX1_follow_X1_table : GoodIn wsX1_follow (wsV RX1 116 RX1 yX1_table wsX1_table) := goodIn_app (goodIn_of _ (by decide +kernel)) ggX1_follow_X1_table
set_option maxRecDepth 20000 in
theorem ggX1_follow_X1_planned : GoodIn wsX1_follow wsX1_planned := goodIn_r _ [35, 26, 25, 36, 37, 38, 8, 39, 40, 41, 42, 43, 31, 24, 27, 28, 29, 30, 23, 49, 50, 51, 52, 53, 54, 55, 56, 57, 58, 59, 60, 61] (by decide +kernel) (by decide +kernel)
set_option maxRecDepth 20000 in
theorem gX1_follow_X1_planned : GoodIn wsX1_follow (wsV RX1 73 RX1 yX1_planned wsX1_planned) := goodIn_app (goodIn_of _ (by decide +kernel)) ggX1_follow_X1_planned
set_option maxRecDepth 20000 in
theorem ggX1_follow_X1_go : GoodIn wsX1_follow wsX1_go := goodIn_r _ [47, 48, 2, 4, 49, 50, 51, 52, 53, 54, 55, 56, 57, 58, 59, 60, 61] (by decide +kernel) (by decide +kernel)
set_option maxRecDepth 20000 in
theorem gX1_follow_X1_go : GoodIn wsX1_follow (wsV RX1 112 RX1 yX1_go wsX1_go) := goodIn_app (goodIn_of _ (by decide +kernel)) ggX1_follow_X1_go
theorem dX1_follow_0 : decode cX1_follow 0 = .ok (.aload_n 0, 1) := by decide +kernel
theorem dX1_follow_1 : decode cX1_follow 1 = .ok (.iconst 0, 1) := by decide +kernel
theorem dX1_follow_2 : decode cX1_follow 2 = .ok (.putfield 42, 3) := by decide +kernel
theorem dX1_follow_5 : decode cX1_follow 5 = .ok (.aload_n 0, 1) := by decide +kernel
theorem dX1_follow_6 : decode cX1_follow 6 = .ok (.iload_n 1, 1) := by decide +kernel
theorem dX1_follow_7 : decode cX1_follow 7 = .ok (.invokevirtual 109, 3) := by decide +kernel
theorem dX1_follow_10 : decode cX1_follow 10 = .ok (.ifCond .ne 9, 3) := by decide +kernel
theorem dX1_follow_13 : decode cX1_follow 13 = .ok (.aload_n 0, 1) := by decide +kernel
theorem dX1_follow_14 : decode cX1_follow 14 = .ok (.iconst 1, 1) := by decide +kernel
theorem dX1_follow_15 : decode cX1_follow 15 = .ok (.invokevirtual 96, 3) := by decide +kernel
theorem dX1_follow_18 : decode cX1_follow 18 = .ok (.ireturn, 1) := by decide +kernel
theorem dX1_follow_19 : decode cX1_follow 19 = .ok (.aload_n 0, 1) := by decide +kernel
theorem dX1_follow_20 : decode cX1_follow 20 = .ok (.getfield 36, 3) := by decide +kernel
theorem dX1_follow_23 : decode cX1_follow 23 = .ok (.iload_n 1, 1) := by decide +kernel
theorem dX1_follow_24 : decode cX1_follow 24 = .ok (.iaload, 1) := by decide +kernel
theorem dX1_follow_25 : decode cX1_follow 25 = .ok (.istore_n 2, 1) := by decide +kernel
theorem dX1_follow_26 : decode cX1_follow 26 = .ok (.aload_n 0, 1) := by decide +kernel
theorem dX1_follow_27 : decode cX1_follow 27 = .ok (.invokevirtual 116, 3) := by decide +kernel
theorem dX1_follow_30 : decode cX1_follow 30 = .ok (.aload_n 0, 1) := by decide +kernel
theorem dX1_follow_31 : decode cX1_follow 31 = .ok (.getfield 9, 3) := by decide +kernel
theorem dX1_follow_34 : decode cX1_follow 34 = .ok (.aload_n 0, 1) := by decide +kernel
theorem dX1_follow_35 : decode cX1_follow 35 = .ok (.getfield 33, 3) := by decide +kernel
theorem dX1_follow_38 : decode cX1_follow 38 = .ok (.iload_n 1, 1) := by decide +kernel
theorem dX1_follow_39 : decode cX1_follow 39 = .ok (.iaload, 1) := by decide +kernel
theorem dX1_follow_40 : decode cX1_follow 40 = .ok (.baload, 1) := by decide +kernel
theorem dX1_follow_41 : decode cX1_follow 41 = .ok (.ifCond .eq 21, 3) := by decide +kernel
theorem dX1_follow_44 : decode cX1_follow 44 = .ok (.aload_n 0, 1) := by decide +kernel
theorem dX1_follow_45 : decode cX1_follow 45 = .ok (.iload_n 1, 1) := by decide +kernel
theorem dX1_follow_46 : decode cX1_follow 46 = .ok (.aload_n 0, 1) := by decide +kernel
theorem dX1_follow_47 : decode cX1_follow 47 = .ok (.aload_n 0, 1) := by decide +kernel
theorem dX1_follow_48 : decode cX1_follow 48 = .ok (.getfield 33, 3) := by decide +kernel
theorem dX1_follow_51 : decode cX1_follow 51 = .ok (.iload_n 1, 1) := by decide +kernel
theorem dX1_follow_52 : decode cX1_follow 52 = .ok (.iaload, 1) := by decide +kernel
theorem dX1_follow_53 : decode cX1_follow 53 = .ok (.invokevirtual 73, 3) := by decide +kernel
theorem dX1_follow_56 : decode cX1_follow 56 = .ok (.invokevirtual 112, 3) := by decide +kernel
theorem dX1_follow_59 : decode cX1_follow 59 = .ok (.goto (-29), 3) := by decide +kernel
theorem dX1_follow_62 : decode cX1_follow 62 = .ok (.aload_n 0, 1) := by decide +kernel
theorem dX1_follow_63 : decode cX1_follow 63 = .ok (.getfield 36, 3) := by decide +kernel
theorem dX1_follow_66 : decode cX1_follow 66 = .ok (.iload_n 1, 1) := by decide +kernel
theorem dX1_follow_67 : decode cX1_follow 67 = .ok (.iaload, 1) := by decide +kernel
theorem dX1_follow_68 : decode cX1_follow 68 = .ok (.iload_n 2, 1) := by decide +kernel
theorem dX1_follow_69 : decode cX1_follow 69 = .ok (.isub, 1) := by decide +kernel
theorem dX1_follow_70 : decode cX1_follow 70 = .ok (.ireturn, 1) := by decide +kernel
set_option maxRecDepth 20000 in
theorem ggX1_places_X1_ok : GoodIn wsX1_places wsX1_ok := goodIn_r _ [6, 7, 8, 9, 10, 11, 12, 13, 14, 15, 16, 17, 18, 19, 20] (by decide +kernel) (by decide +kernel)
set_option maxRecDepth 20000 in
theorem gX1_places_X1_ok : GoodIn wsX1_places (wsV RX1 119 RX1 yX1_ok wsX1_ok) := goodIn_app (goodIn_of _ (by decide +kernel)) ggX1_places_X1_ok
theorem dX1_places_0 : decode cX1_places 0 = .ok (.aload_n 0, 1) := by decide +kernel
theorem dX1_places_1 : decode cX1_places 1 = .ok (.aload_n 0, 1) := by decide +kernel
theorem dX1_places_2 : decode cX1_places 2 = .ok (.getfield 46, 3) := by decide +kernel
theorem dX1_places_5 : decode cX1_places 5 = .ok (.invokevirtual 119, 3) := by decide +kernel
theorem dX1_places_8 : decode cX1_places 8 = .ok (.ireturn, 1) := by decide +kernel
theorem dX1_examsNow_0 : decode cX1_examsNow 0 = .ok (.iconst 0, 1) := by decide +kernel
theorem dX1_examsNow_1 : decode cX1_examsNow 1 = .ok (.istore_n 1, 1) := by decide +kernel
theorem dX1_examsNow_2 : decode cX1_examsNow 2 = .ok (.iconst 0, 1) := by decide +kernel
theorem dX1_examsNow_3 : decode cX1_examsNow 3 = .ok (.istore_n 2, 1) := by decide +kernel
theorem dX1_examsNow_4 : decode cX1_examsNow 4 = .ok (.iload_n 2, 1) := by decide +kernel
theorem dX1_examsNow_5 : decode cX1_examsNow 5 = .ok (.aload_n 0, 1) := by decide +kernel
theorem dX1_examsNow_6 : decode cX1_examsNow 6 = .ok (.getfield 46, 3) := by decide +kernel
theorem dX1_examsNow_9 : decode cX1_examsNow 9 = .ok (.if_icmp .ge 26, 3) := by decide +kernel
theorem dX1_examsNow_12 : decode cX1_examsNow 12 = .ok (.iload_n 1, 1) := by decide +kernel
theorem dX1_examsNow_13 : decode cX1_examsNow 13 = .ok (.aload_n 0, 1) := by decide +kernel
theorem dX1_examsNow_14 : decode cX1_examsNow 14 = .ok (.getfield 9, 3) := by decide +kernel
theorem dX1_examsNow_17 : decode cX1_examsNow 17 = .ok (.iload_n 2, 1) := by decide +kernel
theorem dX1_examsNow_18 : decode cX1_examsNow 18 = .ok (.baload, 1) := by decide +kernel
theorem dX1_examsNow_19 : decode cX1_examsNow 19 = .ok (.ifCond .eq 7, 3) := by decide +kernel
theorem dX1_examsNow_22 : decode cX1_examsNow 22 = .ok (.iconst 0, 1) := by decide +kernel
theorem dX1_examsNow_23 : decode cX1_examsNow 23 = .ok (.goto 4, 3) := by decide +kernel
theorem dX1_examsNow_26 : decode cX1_examsNow 26 = .ok (.iconst 1, 1) := by decide +kernel
theorem dX1_examsNow_27 : decode cX1_examsNow 27 = .ok (.iadd, 1) := by decide +kernel
theorem dX1_examsNow_28 : decode cX1_examsNow 28 = .ok (.istore_n 1, 1) := by decide +kernel
theorem dX1_examsNow_29 : decode cX1_examsNow 29 = .ok (.iinc 2 1, 3) := by decide +kernel
theorem dX1_examsNow_32 : decode cX1_examsNow 32 = .ok (.goto (-28), 3) := by decide +kernel
theorem dX1_examsNow_35 : decode cX1_examsNow 35 = .ok (.iload_n 1, 1) := by decide +kernel
theorem dX1_examsNow_36 : decode cX1_examsNow 36 = .ok (.ireturn, 1) := by decide +kernel
set_option maxRecDepth 20000 in
theorem ggX1_exams_X1_examsNow : GoodIn wsX1_exams wsX1_examsNow := goodIn_r _ [5, 6, 7, 13, 14, 15, 16, 17, 18, 19, 20, 21, 22, 23, 24, 25] (by decide +kernel) (by decide +kernel)
set_option maxRecDepth 20000 in
theorem gX1_exams_X1_examsNow : GoodIn wsX1_exams (wsV RX1 122 RX1 yX1_examsNow wsX1_examsNow) := goodIn_app (goodIn_of _ (by decide +kernel)) ggX1_exams_X1_examsNow
set_option maxRecDepth 20000 in
theorem ggX1_exams_X1_ok : GoodIn wsX1_exams wsX1_ok := goodIn_r _ [11, 12, 13, 14, 15, 16, 17, 18, 19, 20, 21, 22, 23, 24, 25] (by decide +kernel) (by decide +kernel)
set_option maxRecDepth 20000 in
theorem gX1_exams_X1_ok : GoodIn wsX1_exams (wsV RX1 119 RX1 yX1_ok wsX1_ok) := goodIn_app (goodIn_of _ (by decide +kernel)) ggX1_exams_X1_ok
theorem dX1_exams_0 : decode cX1_exams 0 = .ok (.aload_n 0, 1) := by decide +kernel
theorem dX1_exams_1 : decode cX1_exams 1 = .ok (.aload_n 0, 1) := by decide +kernel
theorem dX1_exams_2 : decode cX1_exams 2 = .ok (.invokevirtual 122, 3) := by decide +kernel
theorem dX1_exams_5 : decode cX1_exams 5 = .ok (.invokevirtual 119, 3) := by decide +kernel
theorem dX1_exams_8 : decode cX1_exams 8 = .ok (.ireturn, 1) := by decide +kernel
set_option maxRecDepth 20000 in
theorem ggX1_graded_X1_gradedNow : GoodIn wsX1_graded wsX1_gradedNow := goodIn_r _ [5, 6, 7, 8, 14, 15, 16, 17, 18, 19, 20, 21, 22, 23, 24, 25, 26] (by decide +kernel) (by decide +kernel)
set_option maxRecDepth 20000 in
theorem gX1_graded_X1_gradedNow : GoodIn wsX1_graded (wsV RX1 102 RX1 yX1_gradedNow wsX1_gradedNow) := goodIn_app (goodIn_of _ (by decide +kernel)) ggX1_graded_X1_gradedNow
set_option maxRecDepth 20000 in
theorem ggX1_graded_X1_ok : GoodIn wsX1_graded wsX1_ok := goodIn_r _ [12, 13, 14, 15, 16, 17, 18, 19, 20, 21, 22, 23, 24, 25, 26] (by decide +kernel) (by decide +kernel)
set_option maxRecDepth 20000 in
theorem gX1_graded_X1_ok : GoodIn wsX1_graded (wsV RX1 119 RX1 yX1_ok wsX1_ok) := goodIn_app (goodIn_of _ (by decide +kernel)) ggX1_graded_X1_ok
theorem dX1_graded_0 : decode cX1_graded 0 = .ok (.aload_n 0, 1) := by decide +kernel
theorem dX1_graded_1 : decode cX1_graded 1 = .ok (.aload_n 0, 1) := by decide +kernel
theorem dX1_graded_2 : decode cX1_graded 2 = .ok (.invokevirtual 102, 3) := by decide +kernel
theorem dX1_graded_5 : decode cX1_graded 5 = .ok (.invokevirtual 119, 3) := by decide +kernel
theorem dX1_graded_8 : decode cX1_graded 8 = .ok (.ireturn, 1) := by decide +kernel
set_option maxRecDepth 20000 in
theorem ggX1_students_X1_ok : GoodIn wsX1_students wsX1_ok := goodIn_r _ [6, 7, 8, 9, 10, 11, 12, 13, 14, 15, 16, 17, 18, 19, 20] (by decide +kernel) (by decide +kernel)
set_option maxRecDepth 20000 in
theorem gX1_students_X1_ok : GoodIn wsX1_students (wsV RX1 119 RX1 yX1_ok wsX1_ok) := goodIn_app (goodIn_of _ (by decide +kernel)) ggX1_students_X1_ok
theorem dX1_students_0 : decode cX1_students 0 = .ok (.aload_n 0, 1) := by decide +kernel
theorem dX1_students_1 : decode cX1_students 1 = .ok (.aload_n 0, 1) := by decide +kernel
theorem dX1_students_2 : decode cX1_students 2 = .ok (.getfield 57, 3) := by decide +kernel
theorem dX1_students_5 : decode cX1_students 5 = .ok (.invokevirtual 119, 3) := by decide +kernel
theorem dX1_students_8 : decode cX1_students 8 = .ok (.ireturn, 1) := by decide +kernel
theorem dX1_atEnds_0 : decode cX1_atEnds 0 = .ok (.iconst 0, 1) := by decide +kernel
theorem dX1_atEnds_1 : decode cX1_atEnds 1 = .ok (.istore_n 1, 1) := by decide +kernel
theorem dX1_atEnds_2 : decode cX1_atEnds 2 = .ok (.iconst 0, 1) := by decide +kernel
theorem dX1_atEnds_3 : decode cX1_atEnds 3 = .ok (.istore_n 2, 1) := by decide +kernel
theorem dX1_atEnds_4 : decode cX1_atEnds 4 = .ok (.iload_n 2, 1) := by decide +kernel
theorem dX1_atEnds_5 : decode cX1_atEnds 5 = .ok (.aload_n 0, 1) := by decide +kernel
theorem dX1_atEnds_6 : decode cX1_atEnds 6 = .ok (.getfield 57, 3) := by decide +kernel
theorem dX1_atEnds_9 : decode cX1_atEnds 9 = .ok (.if_icmp .ge 31, 3) := by decide +kernel
theorem dX1_atEnds_12 : decode cX1_atEnds 12 = .ok (.iload_n 1, 1) := by decide +kernel
theorem dX1_atEnds_13 : decode cX1_atEnds 13 = .ok (.aload_n 0, 1) := by decide +kernel
theorem dX1_atEnds_14 : decode cX1_atEnds 14 = .ok (.getfield 9, 3) := by decide +kernel
theorem dX1_atEnds_17 : decode cX1_atEnds 17 = .ok (.aload_n 0, 1) := by decide +kernel
theorem dX1_atEnds_18 : decode cX1_atEnds 18 = .ok (.getfield 33, 3) := by decide +kernel
theorem dX1_atEnds_21 : decode cX1_atEnds 21 = .ok (.iload_n 2, 1) := by decide +kernel
theorem dX1_atEnds_22 : decode cX1_atEnds 22 = .ok (.iaload, 1) := by decide +kernel
theorem dX1_atEnds_23 : decode cX1_atEnds 23 = .ok (.baload, 1) := by decide +kernel
theorem dX1_atEnds_24 : decode cX1_atEnds 24 = .ok (.ifCond .eq 7, 3) := by decide +kernel
theorem dX1_atEnds_27 : decode cX1_atEnds 27 = .ok (.iconst 0, 1) := by decide +kernel
theorem dX1_atEnds_28 : decode cX1_atEnds 28 = .ok (.goto 4, 3) := by decide +kernel
theorem dX1_atEnds_31 : decode cX1_atEnds 31 = .ok (.iconst 1, 1) := by decide +kernel
theorem dX1_atEnds_32 : decode cX1_atEnds 32 = .ok (.iadd, 1) := by decide +kernel
theorem dX1_atEnds_33 : decode cX1_atEnds 33 = .ok (.istore_n 1, 1) := by decide +kernel
theorem dX1_atEnds_34 : decode cX1_atEnds 34 = .ok (.iinc 2 1, 3) := by decide +kernel
theorem dX1_atEnds_37 : decode cX1_atEnds 37 = .ok (.goto (-33), 3) := by decide +kernel
theorem dX1_atEnds_40 : decode cX1_atEnds 40 = .ok (.iload_n 1, 1) := by decide +kernel
theorem dX1_atEnds_41 : decode cX1_atEnds 41 = .ok (.ireturn, 1) := by decide +kernel
set_option maxRecDepth 20000 in
theorem ggX1_atExams_X1_atEnds : GoodIn wsX1_atExams wsX1_atEnds := goodIn_r _ [5, 6, 7, 8, 14, 15, 16, 17, 18, 19, 20, 21, 22, 23, 24, 25, 26] (by decide +kernel) (by decide +kernel)
set_option maxRecDepth 20000 in
theorem gX1_atExams_X1_atEnds : GoodIn wsX1_atExams (wsV RX1 125 RX1 yX1_atEnds wsX1_atEnds) := goodIn_app (goodIn_of _ (by decide +kernel)) ggX1_atExams_X1_atEnds
set_option maxRecDepth 20000 in
theorem ggX1_atExams_X1_ok : GoodIn wsX1_atExams wsX1_ok := goodIn_r _ [12, 13, 14, 15, 16, 17, 18, 19, 20, 21, 22, 23, 24, 25, 26] (by decide +kernel) (by decide +kernel)
set_option maxRecDepth 20000 in
theorem gX1_atExams_X1_ok : GoodIn wsX1_atExams (wsV RX1 119 RX1 yX1_ok wsX1_ok) := goodIn_app (goodIn_of _ (by decide +kernel)) ggX1_atExams_X1_ok
theorem dX1_atExams_0 : decode cX1_atExams 0 = .ok (.aload_n 0, 1) := by decide +kernel
theorem dX1_atExams_1 : decode cX1_atExams 1 = .ok (.aload_n 0, 1) := by decide +kernel
theorem dX1_atExams_2 : decode cX1_atExams 2 = .ok (.invokevirtual 125, 3) := by decide +kernel
theorem dX1_atExams_5 : decode cX1_atExams 5 = .ok (.invokevirtual 119, 3) := by decide +kernel
theorem dX1_atExams_8 : decode cX1_atExams 8 = .ok (.ireturn, 1) := by decide +kernel
set_option maxRecDepth 20000 in
theorem ggX1_isExam_X1_isPlace : GoodIn wsX1_isExam wsX1_isPlace := goodIn_r _ [7, 8, 9, 10, 6, 11, 16, 17, 18, 19, 20, 21, 22, 23, 24, 25, 26, 27, 28] (by decide +kernel) (by decide +kernel)
set_option maxRecDepth 20000 in
theorem gX1_isExam_X1_isPlace : GoodIn wsX1_isExam (wsV RX1 53 RX1 yX1_isPlace wsX1_isPlace) := goodIn_app (goodIn_of _ (by decide +kernel)) ggX1_isExam_X1_isPlace
set_option maxRecDepth 20000 in
theorem ggX1_isExam_X1_isNot : GoodIn wsX1_isExam wsX1_isNot := goodIn_r _ [15, 1, 16, 17, 18, 19, 20, 21, 22, 23, 24, 25, 26, 27, 28] (by decide +kernel) (by decide +kernel)
set_option maxRecDepth 20000 in
theorem gX1_isExam_X1_isNot : GoodIn wsX1_isExam (wsV RX1 128 RX1 yX1_isNot wsX1_isNot) := goodIn_app (goodIn_of _ (by decide +kernel)) ggX1_isExam_X1_isNot
theorem dX1_isExam_0 : decode cX1_isExam 0 = .ok (.aload_n 0, 1) := by decide +kernel
theorem dX1_isExam_1 : decode cX1_isExam 1 = .ok (.iconst 0, 1) := by decide +kernel
theorem dX1_isExam_2 : decode cX1_isExam 2 = .ok (.putfield 42, 3) := by decide +kernel
theorem dX1_isExam_5 : decode cX1_isExam 5 = .ok (.aload_n 0, 1) := by decide +kernel
theorem dX1_isExam_6 : decode cX1_isExam 6 = .ok (.iload_n 1, 1) := by decide +kernel
theorem dX1_isExam_7 : decode cX1_isExam 7 = .ok (.invokevirtual 53, 3) := by decide +kernel
theorem dX1_isExam_10 : decode cX1_isExam 10 = .ok (.ifCond .eq 20, 3) := by decide +kernel
theorem dX1_isExam_13 : decode cX1_isExam 13 = .ok (.aload_n 0, 1) := by decide +kernel
theorem dX1_isExam_14 : decode cX1_isExam 14 = .ok (.getfield 9, 3) := by decide +kernel
theorem dX1_isExam_17 : decode cX1_isExam 17 = .ok (.iload_n 1, 1) := by decide +kernel
theorem dX1_isExam_18 : decode cX1_isExam 18 = .ok (.baload, 1) := by decide +kernel
theorem dX1_isExam_19 : decode cX1_isExam 19 = .ok (.ifCond .ne 7, 3) := by decide +kernel
theorem dX1_isExam_22 : decode cX1_isExam 22 = .ok (.iconst 1, 1) := by decide +kernel
theorem dX1_isExam_23 : decode cX1_isExam 23 = .ok (.goto 12, 3) := by decide +kernel
theorem dX1_isExam_26 : decode cX1_isExam 26 = .ok (.iconst 0, 1) := by decide +kernel
theorem dX1_isExam_27 : decode cX1_isExam 27 = .ok (.goto 8, 3) := by decide +kernel
theorem dX1_isExam_30 : decode cX1_isExam 30 = .ok (.aload_n 0, 1) := by decide +kernel
theorem dX1_isExam_31 : decode cX1_isExam 31 = .ok (.iconst 1, 1) := by decide +kernel
theorem dX1_isExam_32 : decode cX1_isExam 32 = .ok (.invokevirtual 128, 3) := by decide +kernel
theorem dX1_isExam_35 : decode cX1_isExam 35 = .ok (.ireturn, 1) := by decide +kernel
set_option maxRecDepth 20000 in
theorem ggX1_isGraded_X1_isExamAt : GoodIn wsX1_isGraded wsX1_isExamAt := goodIn_r _ [7, 8, 9, 10, 11, 6, 12, 13, 14, 15, 16, 21, 22, 23, 24, 25, 26, 27, 28, 29, 30, 31, 32, 33] (by decide +kernel) (by decide +kernel)
set_option maxRecDepth 20000 in
theorem gX1_isGraded_X1_isExamAt : GoodIn wsX1_isGraded (wsV RX1 99 RX1 yX1_isExamAt wsX1_isExamAt) := goodIn_app (goodIn_of _ (by decide +kernel)) ggX1_isGraded_X1_isExamAt
set_option maxRecDepth 20000 in
theorem ggX1_isGraded_X1_isNot : GoodIn wsX1_isGraded wsX1_isNot := goodIn_r _ [20, 1, 21, 22, 23, 24, 25, 26, 27, 28, 29, 30, 31, 32, 33] (by decide +kernel) (by decide +kernel)
set_option maxRecDepth 20000 in
theorem gX1_isGraded_X1_isNot : GoodIn wsX1_isGraded (wsV RX1 128 RX1 yX1_isNot wsX1_isNot) := goodIn_app (goodIn_of _ (by decide +kernel)) ggX1_isGraded_X1_isNot
theorem dX1_isGraded_0 : decode cX1_isGraded 0 = .ok (.aload_n 0, 1) := by decide +kernel
theorem dX1_isGraded_1 : decode cX1_isGraded 1 = .ok (.iconst 0, 1) := by decide +kernel
theorem dX1_isGraded_2 : decode cX1_isGraded 2 = .ok (.putfield 42, 3) := by decide +kernel
theorem dX1_isGraded_5 : decode cX1_isGraded 5 = .ok (.aload_n 0, 1) := by decide +kernel
theorem dX1_isGraded_6 : decode cX1_isGraded 6 = .ok (.iload_n 1, 1) := by decide +kernel
theorem dX1_isGraded_7 : decode cX1_isGraded 7 = .ok (.invokevirtual 99, 3) := by decide +kernel
theorem dX1_isGraded_10 : decode cX1_isGraded 10 = .ok (.ifCond .eq 21, 3) := by decide +kernel
theorem dX1_isGraded_13 : decode cX1_isGraded 13 = .ok (.aload_n 0, 1) := by decide +kernel
theorem dX1_isGraded_14 : decode cX1_isGraded 14 = .ok (.getfield 20, 3) := by decide +kernel
theorem dX1_isGraded_17 : decode cX1_isGraded 17 = .ok (.iload_n 1, 1) := by decide +kernel
theorem dX1_isGraded_18 : decode cX1_isGraded 18 = .ok (.iaload, 1) := by decide +kernel
theorem dX1_isGraded_19 : decode cX1_isGraded 19 = .ok (.iconst (-1), 1) := by decide +kernel
theorem dX1_isGraded_20 : decode cX1_isGraded 20 = .ok (.if_icmp .eq 7, 3) := by decide +kernel
theorem dX1_isGraded_23 : decode cX1_isGraded 23 = .ok (.iconst 1, 1) := by decide +kernel
theorem dX1_isGraded_24 : decode cX1_isGraded 24 = .ok (.goto 12, 3) := by decide +kernel
theorem dX1_isGraded_27 : decode cX1_isGraded 27 = .ok (.iconst 0, 1) := by decide +kernel
theorem dX1_isGraded_28 : decode cX1_isGraded 28 = .ok (.goto 8, 3) := by decide +kernel
theorem dX1_isGraded_31 : decode cX1_isGraded 31 = .ok (.aload_n 0, 1) := by decide +kernel
theorem dX1_isGraded_32 : decode cX1_isGraded 32 = .ok (.iconst 1, 1) := by decide +kernel
theorem dX1_isGraded_33 : decode cX1_isGraded 33 = .ok (.invokevirtual 128, 3) := by decide +kernel
theorem dX1_isGraded_36 : decode cX1_isGraded 36 = .ok (.ireturn, 1) := by decide +kernel
set_option maxRecDepth 20000 in
theorem ggX1_gradeOf_X1_isExamAt : GoodIn wsX1_gradeOf wsX1_isExamAt := goodIn_r _ [7, 8, 9, 10, 11, 6, 12, 13, 14, 15, 16, 21, 22, 23, 24, 25, 26, 27, 28, 29, 30, 31, 32, 33] (by decide +kernel) (by decide +kernel)
set_option maxRecDepth 20000 in
theorem gX1_gradeOf_X1_isExamAt : GoodIn wsX1_gradeOf (wsV RX1 99 RX1 yX1_isExamAt wsX1_isExamAt) := goodIn_app (goodIn_of _ (by decide +kernel)) ggX1_gradeOf_X1_isExamAt
set_option maxRecDepth 20000 in
theorem ggX1_gradeOf_X1_no : GoodIn wsX1_gradeOf wsX1_no := goodIn_r _ [20, 1, 21, 22, 23, 24, 25, 26, 27, 28, 29, 30, 31, 32, 33] (by decide +kernel) (by decide +kernel)
set_option maxRecDepth 20000 in
theorem gX1_gradeOf_X1_no : GoodIn wsX1_gradeOf (wsV RX1 96 RX1 yX1_no wsX1_no) := goodIn_app (goodIn_of _ (by decide +kernel)) ggX1_gradeOf_X1_no
theorem dX1_gradeOf_0 : decode cX1_gradeOf 0 = .ok (.aload_n 0, 1) := by decide +kernel
theorem dX1_gradeOf_1 : decode cX1_gradeOf 1 = .ok (.iconst 0, 1) := by decide +kernel
theorem dX1_gradeOf_2 : decode cX1_gradeOf 2 = .ok (.putfield 42, 3) := by decide +kernel
theorem dX1_gradeOf_5 : decode cX1_gradeOf 5 = .ok (.aload_n 0, 1) := by decide +kernel
theorem dX1_gradeOf_6 : decode cX1_gradeOf 6 = .ok (.iload_n 1, 1) := by decide +kernel
theorem dX1_gradeOf_7 : decode cX1_gradeOf 7 = .ok (.invokevirtual 99, 3) := by decide +kernel
theorem dX1_gradeOf_10 : decode cX1_gradeOf 10 = .ok (.ifCond .eq 12, 3) := by decide +kernel
theorem dX1_gradeOf_13 : decode cX1_gradeOf 13 = .ok (.aload_n 0, 1) := by decide +kernel
theorem dX1_gradeOf_14 : decode cX1_gradeOf 14 = .ok (.getfield 20, 3) := by decide +kernel
theorem dX1_gradeOf_17 : decode cX1_gradeOf 17 = .ok (.iload_n 1, 1) := by decide +kernel
theorem dX1_gradeOf_18 : decode cX1_gradeOf 18 = .ok (.iaload, 1) := by decide +kernel
theorem dX1_gradeOf_19 : decode cX1_gradeOf 19 = .ok (.goto 8, 3) := by decide +kernel
theorem dX1_gradeOf_22 : decode cX1_gradeOf 22 = .ok (.aload_n 0, 1) := by decide +kernel
theorem dX1_gradeOf_23 : decode cX1_gradeOf 23 = .ok (.iconst 1, 1) := by decide +kernel
theorem dX1_gradeOf_24 : decode cX1_gradeOf 24 = .ok (.invokevirtual 96, 3) := by decide +kernel
theorem dX1_gradeOf_27 : decode cX1_gradeOf 27 = .ok (.ireturn, 1) := by decide +kernel
set_option maxRecDepth 20000 in
theorem ggX1_ofFork_X1_isForkAt : GoodIn wsX1_ofFork wsX1_isForkAt := goodIn_r _ [6, 7, 8, 9, 10, 5, 11, 12, 13, 14, 15, 20, 21, 22, 23, 24, 25, 26, 27, 28, 29, 30, 31, 32] (by decide +kernel) (by decide +kernel)
set_option maxRecDepth 20000 in
theorem gX1_ofFork_X1_isForkAt : GoodIn wsX1_ofFork (wsV RX1 106 RX1 yX1_isForkAt wsX1_isForkAt) := goodIn_app (goodIn_of _ (by decide +kernel)) ggX1_ofFork_X1_isForkAt
set_option maxRecDepth 20000 in
theorem ggX1_ofFork_X1_no : GoodIn wsX1_ofFork wsX1_no := goodIn_r _ [19, 1, 20, 21, 22, 23, 24, 25, 26, 27, 28, 29, 30, 31, 32] (by decide +kernel) (by decide +kernel)
set_option maxRecDepth 20000 in
theorem gX1_ofFork_X1_no : GoodIn wsX1_ofFork (wsV RX1 96 RX1 yX1_no wsX1_no) := goodIn_app (goodIn_of _ (by decide +kernel)) ggX1_ofFork_X1_no
theorem dX1_ofFork_0 : decode cX1_ofFork 0 = .ok (.aload_n 0, 1) := by decide +kernel
theorem dX1_ofFork_1 : decode cX1_ofFork 1 = .ok (.iconst 0, 1) := by decide +kernel
theorem dX1_ofFork_2 : decode cX1_ofFork 2 = .ok (.putfield 42, 3) := by decide +kernel
theorem dX1_ofFork_5 : decode cX1_ofFork 5 = .ok (.aload_n 0, 1) := by decide +kernel
theorem dX1_ofFork_6 : decode cX1_ofFork 6 = .ok (.iload_n 1, 1) := by decide +kernel
theorem dX1_ofFork_7 : decode cX1_ofFork 7 = .ok (.invokevirtual 106, 3) := by decide +kernel
theorem dX1_ofFork_10 : decode cX1_ofFork 10 = .ok (.ifCond .eq 9, 3) := by decide +kernel
theorem dX1_ofFork_13 : decode cX1_ofFork 13 = .ok (.aload_n 2, 1) := by decide +kernel
theorem dX1_ofFork_14 : decode cX1_ofFork 14 = .ok (.iload_n 1, 1) := by decide +kernel
theorem dX1_ofFork_15 : decode cX1_ofFork 15 = .ok (.iaload, 1) := by decide +kernel
theorem dX1_ofFork_16 : decode cX1_ofFork 16 = .ok (.goto 8, 3) := by decide +kernel
theorem dX1_ofFork_19 : decode cX1_ofFork 19 = .ok (.aload_n 0, 1) := by decide +kernel
theorem dX1_ofFork_20 : decode cX1_ofFork 20 = .ok (.iconst 1, 1) := by decide +kernel
theorem dX1_ofFork_21 : decode cX1_ofFork 21 = .ok (.invokevirtual 96, 3) := by decide +kernel
theorem dX1_ofFork_24 : decode cX1_ofFork 24 = .ok (.ireturn, 1) := by decide +kernel
set_option maxRecDepth 20000 in
theorem ggX1_leftOf_X1_ofFork : GoodIn wsX1_leftOf wsX1_ofFork := goodIn_r _ [6, 7, 8, 9, 10, 5, 11, 12, 13, 14, 15, 16, 17, 18, 19, 20, 21, 22, 23, 24, 25, 26, 27, 28, 29, 30, 31, 32, 33, 34, 35, 36, 37] (by decide +kernel) (by decide +kernel)
set_option maxRecDepth 20000 in
theorem gX1_leftOf_X1_ofFork : GoodIn wsX1_leftOf (wsV RX1 131 RX1 yX1_ofFork wsX1_ofFork) := goodIn_app (goodIn_of _ (by decide +kernel)) ggX1_leftOf_X1_ofFork
theorem dX1_leftOf_0 : decode cX1_leftOf 0 = .ok (.aload_n 0, 1) := by decide +kernel
theorem dX1_leftOf_1 : decode cX1_leftOf 1 = .ok (.iload_n 1, 1) := by decide +kernel
theorem dX1_leftOf_2 : decode cX1_leftOf 2 = .ok (.aload_n 0, 1) := by decide +kernel
theorem dX1_leftOf_3 : decode cX1_leftOf 3 = .ok (.getfield 13, 3) := by decide +kernel
theorem dX1_leftOf_6 : decode cX1_leftOf 6 = .ok (.invokevirtual 131, 3) := by decide +kernel
theorem dX1_leftOf_9 : decode cX1_leftOf 9 = .ok (.ireturn, 1) := by decide +kernel
set_option maxRecDepth 20000 in
theorem ggX1_rightOf_X1_ofFork : GoodIn wsX1_rightOf wsX1_ofFork := goodIn_r _ [6, 7, 8, 9, 10, 5, 11, 12, 13, 14, 15, 16, 17, 18, 19, 20, 21, 22, 23, 24, 25, 26, 27, 28, 29, 30, 31, 32, 33, 34, 35, 36, 37] (by decide +kernel) (by decide +kernel)
set_option maxRecDepth 20000 in
theorem gX1_rightOf_X1_ofFork : GoodIn wsX1_rightOf (wsV RX1 131 RX1 yX1_ofFork wsX1_ofFork) := goodIn_app (goodIn_of _ (by decide +kernel)) ggX1_rightOf_X1_ofFork
theorem dX1_rightOf_0 : decode cX1_rightOf 0 = .ok (.aload_n 0, 1) := by decide +kernel
theorem dX1_rightOf_1 : decode cX1_rightOf 1 = .ok (.iload_n 1, 1) := by decide +kernel
theorem dX1_rightOf_2 : decode cX1_rightOf 2 = .ok (.aload_n 0, 1) := by decide +kernel
theorem dX1_rightOf_3 : decode cX1_rightOf 3 = .ok (.getfield 17, 3) := by decide +kernel
theorem dX1_rightOf_6 : decode cX1_rightOf 6 = .ok (.invokevirtual 131, 3) := by decide +kernel
theorem dX1_rightOf_9 : decode cX1_rightOf 9 = .ok (.ireturn, 1) := by decide +kernel
set_option maxRecDepth 20000 in
theorem ggX1_weightOf_X1_ofFork : GoodIn wsX1_weightOf wsX1_ofFork := goodIn_r _ [6, 7, 8, 9, 10, 5, 11, 12, 13, 14, 15, 16, 17, 18, 19, 20, 21, 22, 23, 24, 25, 26, 27, 28, 29, 30, 31, 32, 33, 34, 35, 36, 37] (by decide +kernel) (by decide +kernel)
set_option maxRecDepth 20000 in
theorem gX1_weightOf_X1_ofFork : GoodIn wsX1_weightOf (wsV RX1 131 RX1 yX1_ofFork wsX1_ofFork) := goodIn_app (goodIn_of _ (by decide +kernel)) ggX1_weightOf_X1_ofFork
theorem dX1_weightOf_0 : decode cX1_weightOf 0 = .ok (.aload_n 0, 1) := by decide +kernel
theorem dX1_weightOf_1 : decode cX1_weightOf 1 = .ok (.iload_n 1, 1) := by decide +kernel
theorem dX1_weightOf_2 : decode cX1_weightOf 2 = .ok (.aload_n 0, 1) := by decide +kernel
theorem dX1_weightOf_3 : decode cX1_weightOf 3 = .ok (.getfield 20, 3) := by decide +kernel
theorem dX1_weightOf_6 : decode cX1_weightOf 6 = .ok (.invokevirtual 131, 3) := by decide +kernel
theorem dX1_weightOf_9 : decode cX1_weightOf 9 = .ok (.ireturn, 1) := by decide +kernel
set_option maxRecDepth 20000 in
theorem ggX1_ofStudent_X1_isStudent : GoodIn wsX1_ofStudent wsX1_isStudent := goodIn_r _ [6, 7, 8, 9, 5, 10, 15, 16, 17, 18, 19, 20, 21, 22, 23, 24, 25, 26, 27] (by decide +kernel) (by decide +kernel)
set_option maxRecDepth 20000 in
theorem gX1_ofStudent_X1_isStudent : GoodIn wsX1_ofStudent (wsV RX1 109 RX1 yX1_isStudent wsX1_isStudent) := goodIn_app (goodIn_of _ (by decide +kernel)) ggX1_ofStudent_X1_isStudent
set_option maxRecDepth 20000 in
theorem ggX1_ofStudent_X1_no : GoodIn wsX1_ofStudent wsX1_no := goodIn_r _ [14, 1, 15, 16, 17, 18, 19, 20, 21, 22, 23, 24, 25, 26, 27] (by decide +kernel) (by decide +kernel)
set_option maxRecDepth 20000 in
theorem gX1_ofStudent_X1_no : GoodIn wsX1_ofStudent (wsV RX1 96 RX1 yX1_no wsX1_no) := goodIn_app (goodIn_of _ (by decide +kernel)) ggX1_ofStudent_X1_no
theorem dX1_ofStudent_0 : decode cX1_ofStudent 0 = .ok (.aload_n 0, 1) := by decide +kernel
theorem dX1_ofStudent_1 : decode cX1_ofStudent 1 = .ok (.iconst 0, 1) := by decide +kernel
theorem dX1_ofStudent_2 : decode cX1_ofStudent 2 = .ok (.putfield 42, 3) := by decide +kernel
theorem dX1_ofStudent_5 : decode cX1_ofStudent 5 = .ok (.aload_n 0, 1) := by decide +kernel
theorem dX1_ofStudent_6 : decode cX1_ofStudent 6 = .ok (.iload_n 1, 1) := by decide +kernel
theorem dX1_ofStudent_7 : decode cX1_ofStudent 7 = .ok (.invokevirtual 109, 3) := by decide +kernel
theorem dX1_ofStudent_10 : decode cX1_ofStudent 10 = .ok (.ifCond .eq 9, 3) := by decide +kernel
theorem dX1_ofStudent_13 : decode cX1_ofStudent 13 = .ok (.aload_n 2, 1) := by decide +kernel
theorem dX1_ofStudent_14 : decode cX1_ofStudent 14 = .ok (.iload_n 1, 1) := by decide +kernel
theorem dX1_ofStudent_15 : decode cX1_ofStudent 15 = .ok (.iaload, 1) := by decide +kernel
theorem dX1_ofStudent_16 : decode cX1_ofStudent 16 = .ok (.goto 8, 3) := by decide +kernel
theorem dX1_ofStudent_19 : decode cX1_ofStudent 19 = .ok (.aload_n 0, 1) := by decide +kernel
theorem dX1_ofStudent_20 : decode cX1_ofStudent 20 = .ok (.iconst 1, 1) := by decide +kernel
theorem dX1_ofStudent_21 : decode cX1_ofStudent 21 = .ok (.invokevirtual 96, 3) := by decide +kernel
theorem dX1_ofStudent_24 : decode cX1_ofStudent 24 = .ok (.ireturn, 1) := by decide +kernel
set_option maxRecDepth 20000 in
theorem ggX1_placeOf_X1_ofStudent : GoodIn wsX1_placeOf wsX1_ofStudent := goodIn_r _ [6, 7, 8, 9, 10, 5, 11, 12, 13, 14, 15, 16, 17, 18, 19, 20, 21, 22, 23, 24, 25, 26, 27, 28, 29, 30, 31, 32] (by decide +kernel) (by decide +kernel)
set_option maxRecDepth 20000 in
theorem gX1_placeOf_X1_ofStudent : GoodIn wsX1_placeOf (wsV RX1 135 RX1 yX1_ofStudent wsX1_ofStudent) := goodIn_app (goodIn_of _ (by decide +kernel)) ggX1_placeOf_X1_ofStudent
theorem dX1_placeOf_0 : decode cX1_placeOf 0 = .ok (.aload_n 0, 1) := by decide +kernel
theorem dX1_placeOf_1 : decode cX1_placeOf 1 = .ok (.iload_n 1, 1) := by decide +kernel
theorem dX1_placeOf_2 : decode cX1_placeOf 2 = .ok (.aload_n 0, 1) := by decide +kernel
theorem dX1_placeOf_3 : decode cX1_placeOf 3 = .ok (.getfield 33, 3) := by decide +kernel
theorem dX1_placeOf_6 : decode cX1_placeOf 6 = .ok (.invokevirtual 135, 3) := by decide +kernel
theorem dX1_placeOf_9 : decode cX1_placeOf 9 = .ok (.ireturn, 1) := by decide +kernel
set_option maxRecDepth 20000 in
theorem ggX1_passedBy_X1_ofStudent : GoodIn wsX1_passedBy wsX1_ofStudent := goodIn_r _ [6, 7, 8, 9, 10, 5, 11, 12, 13, 14, 15, 16, 17, 18, 19, 20, 21, 22, 23, 24, 25, 26, 27, 28, 29, 30, 31, 32] (by decide +kernel) (by decide +kernel)
set_option maxRecDepth 20000 in
theorem gX1_passedBy_X1_ofStudent : GoodIn wsX1_passedBy (wsV RX1 135 RX1 yX1_ofStudent wsX1_ofStudent) := goodIn_app (goodIn_of _ (by decide +kernel)) ggX1_passedBy_X1_ofStudent
theorem dX1_passedBy_0 : decode cX1_passedBy 0 = .ok (.aload_n 0, 1) := by decide +kernel
theorem dX1_passedBy_1 : decode cX1_passedBy 1 = .ok (.iload_n 1, 1) := by decide +kernel
theorem dX1_passedBy_2 : decode cX1_passedBy 2 = .ok (.aload_n 0, 1) := by decide +kernel
theorem dX1_passedBy_3 : decode cX1_passedBy 3 = .ok (.getfield 36, 3) := by decide +kernel
theorem dX1_passedBy_6 : decode cX1_passedBy 6 = .ok (.invokevirtual 135, 3) := by decide +kernel
theorem dX1_passedBy_9 : decode cX1_passedBy 9 = .ok (.ireturn, 1) := by decide +kernel
set_option maxRecDepth 20000 in
theorem ggX1_ofPlace_X1_table : GoodIn wsX1_ofPlace wsX1_table := goodIn_r _ [6, 7, 8, 9, 10, 11, 12, 13, 14, 15, 16, 17, 29, 30, 31, 32, 33, 34, 35, 36, 37, 38, 39, 40, 41] (by decide +kernel) (by decide +kernel)
set_option maxRecDepth 20000 in
theorem gX1_ofPlace_X1_table : GoodIn wsX1_ofPlace (wsV RX1 116 RX1 yX1_table wsX1_table) := goodIn_app (goodIn_of _ (by decide +kernel)) ggX1_ofPlace_X1_table
set_option maxRecDepth 20000 in
theorem ggX1_ofPlace_X1_isPlace : GoodIn wsX1_ofPlace wsX1_isPlace := goodIn_r _ [21, 7, 22, 23, 5, 24, 29, 30, 31, 32, 33, 34, 35, 36, 37, 38, 39, 40, 41] (by decide +kernel) (by decide +kernel)
set_option maxRecDepth 20000 in
theorem gX1_ofPlace_X1_isPlace : GoodIn wsX1_ofPlace (wsV RX1 53 RX1 yX1_isPlace wsX1_isPlace) := goodIn_app (goodIn_of _ (by decide +kernel)) ggX1_ofPlace_X1_isPlace
set_option maxRecDepth 20000 in
theorem ggX1_ofPlace_X1_no : GoodIn wsX1_ofPlace wsX1_no := goodIn_r _ [28, 1, 29, 30, 31, 32, 33, 34, 35, 36, 37, 38, 39, 40, 41] (by decide +kernel) (by decide +kernel)
set_option maxRecDepth 20000 in
theorem gX1_ofPlace_X1_no : GoodIn wsX1_ofPlace (wsV RX1 96 RX1 yX1_no wsX1_no) := goodIn_app (goodIn_of _ (by decide +kernel)) ggX1_ofPlace_X1_no
theorem dX1_ofPlace_0 : decode cX1_ofPlace 0 = .ok (.aload_n 0, 1) := by decide +kernel
theorem dX1_ofPlace_1 : decode cX1_ofPlace 1 = .ok (.iconst 0, 1) := by decide +kernel
theorem dX1_ofPlace_2 : decode cX1_ofPlace 2 = .ok (.putfield 42, 3) := by decide +kernel
theorem dX1_ofPlace_5 : decode cX1_ofPlace 5 = .ok (.aload_n 0, 1) := by decide +kernel
theorem dX1_ofPlace_6 : decode cX1_ofPlace 6 = .ok (.invokevirtual 116, 3) := by decide +kernel
theorem dX1_ofPlace_9 : decode cX1_ofPlace 9 = .ok (.aload_n 0, 1) := by decide +kernel
theorem dX1_ofPlace_10 : decode cX1_ofPlace 10 = .ok (.iload_n 1, 1) := by decide +kernel
theorem dX1_ofPlace_11 : decode cX1_ofPlace 11 = .ok (.invokevirtual 53, 3) := by decide +kernel
theorem dX1_ofPlace_14 : decode cX1_ofPlace 14 = .ok (.ifCond .eq 9, 3) := by decide +kernel
theorem dX1_ofPlace_17 : decode cX1_ofPlace 17 = .ok (.aload_n 2, 1) := by decide +kernel
theorem dX1_ofPlace_18 : decode cX1_ofPlace 18 = .ok (.iload_n 1, 1) := by decide +kernel
theorem dX1_ofPlace_19 : decode cX1_ofPlace 19 = .ok (.iaload, 1) := by decide +kernel
theorem dX1_ofPlace_20 : decode cX1_ofPlace 20 = .ok (.goto 8, 3) := by decide +kernel
theorem dX1_ofPlace_23 : decode cX1_ofPlace 23 = .ok (.aload_n 0, 1) := by decide +kernel
theorem dX1_ofPlace_24 : decode cX1_ofPlace 24 = .ok (.iconst 1, 1) := by decide +kernel
theorem dX1_ofPlace_25 : decode cX1_ofPlace 25 = .ok (.invokevirtual 96, 3) := by decide +kernel
theorem dX1_ofPlace_28 : decode cX1_ofPlace 28 = .ok (.ireturn, 1) := by decide +kernel
set_option maxRecDepth 20000 in
theorem ggX1_sureGrade_X1_ofPlace : GoodIn wsX1_sureGrade wsX1_ofPlace := goodIn_r _ [6, 7, 8, 9, 10, 5, 11, 12, 13, 14, 1, 15, 16, 17, 18, 19, 20, 21, 22, 23, 24, 25, 26, 27, 28, 29, 30, 31, 32, 33, 34, 35, 36, 37, 38, 39, 40, 41, 42, 43, 44, 45] (by decide +kernel) (by decide +kernel)
set_option maxRecDepth 20000 in
theorem gX1_sureGrade_X1_ofPlace : GoodIn wsX1_sureGrade (wsV RX1 138 RX1 yX1_ofPlace wsX1_ofPlace) := goodIn_app (goodIn_of _ (by decide +kernel)) ggX1_sureGrade_X1_ofPlace
theorem dX1_sureGrade_0 : decode cX1_sureGrade 0 = .ok (.aload_n 0, 1) := by decide +kernel
theorem dX1_sureGrade_1 : decode cX1_sureGrade 1 = .ok (.iload_n 1, 1) := by decide +kernel
theorem dX1_sureGrade_2 : decode cX1_sureGrade 2 = .ok (.aload_n 0, 1) := by decide +kernel
theorem dX1_sureGrade_3 : decode cX1_sureGrade 3 = .ok (.getfield 27, 3) := by decide +kernel
theorem dX1_sureGrade_6 : decode cX1_sureGrade 6 = .ok (.invokevirtual 138, 3) := by decide +kernel
theorem dX1_sureGrade_9 : decode cX1_sureGrade 9 = .ok (.ireturn, 1) := by decide +kernel
set_option maxRecDepth 20000 in
theorem ggX1_hope_X1_ofPlace : GoodIn wsX1_hope wsX1_ofPlace := goodIn_r _ [6, 7, 8, 9, 10, 5, 11, 12, 13, 14, 15, 16, 17, 18, 19, 20, 21, 1, 22, 23, 24, 25, 26, 27, 28, 29, 30, 31, 32, 33, 34, 35, 36, 37, 38, 39, 40, 41, 42, 43, 44, 45] (by decide +kernel) (by decide +kernel)
set_option maxRecDepth 20000 in
theorem gX1_hope_X1_ofPlace : GoodIn wsX1_hope (wsV RX1 138 RX1 yX1_ofPlace wsX1_ofPlace) := goodIn_app (goodIn_of _ (by decide +kernel)) ggX1_hope_X1_ofPlace
theorem dX1_hope_0 : decode cX1_hope 0 = .ok (.aload_n 0, 1) := by decide +kernel
theorem dX1_hope_1 : decode cX1_hope 1 = .ok (.iload_n 1, 1) := by decide +kernel
theorem dX1_hope_2 : decode cX1_hope 2 = .ok (.aload_n 0, 1) := by decide +kernel
theorem dX1_hope_3 : decode cX1_hope 3 = .ok (.getfield 30, 3) := by decide +kernel
theorem dX1_hope_6 : decode cX1_hope 6 = .ok (.invokevirtual 138, 3) := by decide +kernel
theorem dX1_hope_9 : decode cX1_hope 9 = .ok (.ireturn, 1) := by decide +kernel
set_option maxRecDepth 20000 in
theorem ggX1_reaches_X1_isPlace : GoodIn wsX1_reaches wsX1_isPlace := goodIn_r _ [6, 7, 8, 9, 5, 10, 20, 21, 22, 23, 24, 25, 26, 27, 28, 29, 30, 31, 32] (by decide +kernel) (by decide +kernel)
set_option maxRecDepth 20000 in
theorem gX1_reaches_X1_isPlace : GoodIn wsX1_reaches (wsV RX1 53 RX1 yX1_isPlace wsX1_isPlace) := goodIn_app (goodIn_of _ (by decide +kernel)) ggX1_reaches_X1_isPlace
set_option maxRecDepth 20000 in
theorem ggX1_reaches_X1_has : GoodIn wsX1_reaches wsX1_has := goodIn_r _ [14, 15, 20, 21, 22, 23, 24, 25, 26, 27, 28, 29, 30, 31, 32] (by decide +kernel) (by decide +kernel)
set_option maxRecDepth 20000 in
theorem gX1_reaches_X1_has : GoodIn wsX1_reaches (wsV RX1 77 RX1 yX1_has wsX1_has) := goodIn_app (goodIn_of _ (by decide +kernel)) ggX1_reaches_X1_has
set_option maxRecDepth 20000 in
theorem ggX1_reaches_X1_isNot : GoodIn wsX1_reaches wsX1_isNot := goodIn_r _ [19, 1, 20, 21, 22, 23, 24, 25, 26, 27, 28, 29, 30, 31, 32] (by decide +kernel) (by decide +kernel)
set_option maxRecDepth 20000 in
theorem gX1_reaches_X1_isNot : GoodIn wsX1_reaches (wsV RX1 128 RX1 yX1_isNot wsX1_isNot) := goodIn_app (goodIn_of _ (by decide +kernel)) ggX1_reaches_X1_isNot
theorem dX1_reaches_0 : decode cX1_reaches 0 = .ok (.aload_n 0, 1) := by decide +kernel
theorem dX1_reaches_1 : decode cX1_reaches 1 = .ok (.iconst 0, 1) := by decide +kernel
theorem dX1_reaches_2 : decode cX1_reaches 2 = .ok (.putfield 42, 3) := by decide +kernel
theorem dX1_reaches_5 : decode cX1_reaches 5 = .ok (.aload_n 0, 1) := by decide +kernel
theorem dX1_reaches_6 : decode cX1_reaches 6 = .ok (.iload_n 1, 1) := by decide +kernel
theorem dX1_reaches_7 : decode cX1_reaches 7 = .ok (.invokevirtual 53, 3) := by decide +kernel
theorem dX1_reaches_10 : decode cX1_reaches 10 = .ok (.ifCond .eq 20, 3) := by decide +kernel
theorem dX1_reaches_13 : decode cX1_reaches 13 = .ok (.aload_n 0, 1) := by decide +kernel
theorem dX1_reaches_14 : decode cX1_reaches 14 = .ok (.iload_n 2, 1) := by decide +kernel
theorem dX1_reaches_15 : decode cX1_reaches 15 = .ok (.invokevirtual 53, 3) := by decide +kernel
theorem dX1_reaches_18 : decode cX1_reaches 18 = .ok (.ifCond .eq 12, 3) := by decide +kernel
theorem dX1_reaches_21 : decode cX1_reaches 21 = .ok (.aload_n 0, 1) := by decide +kernel
theorem dX1_reaches_22 : decode cX1_reaches 22 = .ok (.iload_n 1, 1) := by decide +kernel
theorem dX1_reaches_23 : decode cX1_reaches 23 = .ok (.iload_n 2, 1) := by decide +kernel
theorem dX1_reaches_24 : decode cX1_reaches 24 = .ok (.invokevirtual 77, 3) := by decide +kernel
theorem dX1_reaches_27 : decode cX1_reaches 27 = .ok (.goto 8, 3) := by decide +kernel
theorem dX1_reaches_30 : decode cX1_reaches 30 = .ok (.aload_n 0, 1) := by decide +kernel
theorem dX1_reaches_31 : decode cX1_reaches 31 = .ok (.iconst 1, 1) := by decide +kernel
theorem dX1_reaches_32 : decode cX1_reaches 32 = .ok (.invokevirtual 128, 3) := by decide +kernel
theorem dX1_reaches_35 : decode cX1_reaches 35 = .ok (.ireturn, 1) := by decide +kernel
set_option maxRecDepth 20000 in
theorem ggX1_examsFrom_X1_isPlace : GoodIn wsX1_examsFrom wsX1_isPlace := goodIn_r _ [6, 7, 8, 9, 5, 10, 25, 26, 27, 28, 29, 30, 31, 32, 33, 34, 35, 36, 37] (by decide +kernel) (by decide +kernel)
set_option maxRecDepth 20000 in
theorem gX1_examsFrom_X1_isPlace : GoodIn wsX1_examsFrom (wsV RX1 53 RX1 yX1_isPlace wsX1_isPlace) := goodIn_app (goodIn_of _ (by decide +kernel)) ggX1_examsFrom_X1_isPlace
set_option maxRecDepth 20000 in
theorem ggX1_examsFrom_X1_examsOf : GoodIn wsX1_examsFrom wsX1_examsOf := goodIn_r _ [14, 15, 16, 17, 18, 5, 19, 20, 25, 26, 27, 28, 29, 30, 31, 32, 33, 34, 35, 36, 37] (by decide +kernel) (by decide +kernel)
set_option maxRecDepth 20000 in
theorem gX1_examsFrom_X1_examsOf : GoodIn wsX1_examsFrom (wsV RX1 141 RX1 yX1_examsOf wsX1_examsOf) := goodIn_app (goodIn_of _ (by decide +kernel)) ggX1_examsFrom_X1_examsOf
set_option maxRecDepth 20000 in
theorem ggX1_examsFrom_X1_no : GoodIn wsX1_examsFrom wsX1_no := goodIn_r _ [24, 1, 25, 26, 27, 28, 29, 30, 31, 32, 33, 34, 35, 36, 37] (by decide +kernel) (by decide +kernel)
set_option maxRecDepth 20000 in
theorem gX1_examsFrom_X1_no : GoodIn wsX1_examsFrom (wsV RX1 96 RX1 yX1_no wsX1_no) := goodIn_app (goodIn_of _ (by decide +kernel)) ggX1_examsFrom_X1_no
theorem dX1_examsFrom_0 : decode cX1_examsFrom 0 = .ok (.aload_n 0, 1) := by decide +kernel
theorem dX1_examsFrom_1 : decode cX1_examsFrom 1 = .ok (.iconst 0, 1) := by decide +kernel
theorem dX1_examsFrom_2 : decode cX1_examsFrom 2 = .ok (.putfield 42, 3) := by decide +kernel
theorem dX1_examsFrom_5 : decode cX1_examsFrom 5 = .ok (.aload_n 0, 1) := by decide +kernel
theorem dX1_examsFrom_6 : decode cX1_examsFrom 6 = .ok (.iload_n 1, 1) := by decide +kernel
theorem dX1_examsFrom_7 : decode cX1_examsFrom 7 = .ok (.invokevirtual 53, 3) := by decide +kernel
theorem dX1_examsFrom_10 : decode cX1_examsFrom 10 = .ok (.ifCond .eq 11, 3) := by decide +kernel
theorem dX1_examsFrom_13 : decode cX1_examsFrom 13 = .ok (.aload_n 0, 1) := by decide +kernel
theorem dX1_examsFrom_14 : decode cX1_examsFrom 14 = .ok (.iload_n 1, 1) := by decide +kernel
theorem dX1_examsFrom_15 : decode cX1_examsFrom 15 = .ok (.invokevirtual 141, 3) := by decide +kernel
theorem dX1_examsFrom_18 : decode cX1_examsFrom 18 = .ok (.goto 8, 3) := by decide +kernel
theorem dX1_examsFrom_21 : decode cX1_examsFrom 21 = .ok (.aload_n 0, 1) := by decide +kernel
theorem dX1_examsFrom_22 : decode cX1_examsFrom 22 = .ok (.iconst 1, 1) := by decide +kernel
theorem dX1_examsFrom_23 : decode cX1_examsFrom 23 = .ok (.invokevirtual 96, 3) := by decide +kernel
theorem dX1_examsFrom_26 : decode cX1_examsFrom 26 = .ok (.ireturn, 1) := by decide +kernel
set_option maxRecDepth 20000 in
theorem ggX1_risk_X1_table : GoodIn wsX1_risk wsX1_table := goodIn_r _ [6, 7, 8, 9, 10, 11, 12, 13, 14, 15, 16, 17, 37, 38, 39, 40, 41, 42, 43, 44, 45, 46, 47, 48, 49] (by decide +kernel) (by decide +kernel)
set_option maxRecDepth 20000 in
theorem gX1_risk_X1_table : GoodIn wsX1_risk (wsV RX1 116 RX1 yX1_table wsX1_table) := goodIn_app (goodIn_of _ (by decide +kernel)) ggX1_risk_X1_table
set_option maxRecDepth 20000 in
theorem ggX1_risk_X1_isForkAt : GoodIn wsX1_risk wsX1_isForkAt := goodIn_r _ [21, 8, 22, 23, 24, 5, 25, 7, 26, 27, 28, 37, 38, 39, 40, 41, 42, 43, 44, 45, 46, 47, 48, 49] (by decide +kernel) (by decide +kernel)
set_option maxRecDepth 20000 in
theorem gX1_risk_X1_isForkAt : GoodIn wsX1_risk (wsV RX1 106 RX1 yX1_isForkAt wsX1_isForkAt) := goodIn_app (goodIn_of _ (by decide +kernel)) ggX1_risk_X1_isForkAt
set_option maxRecDepth 20000 in
theorem ggX1_risk_X1_riskOf : GoodIn wsX1_risk wsX1_riskOf := goodIn_r _ [32, 12, 11, 17, 10, 13, 14, 15, 16, 9, 37, 38, 39, 40, 41, 42, 43, 44, 45, 46, 47, 48, 49] (by decide +kernel) (by decide +kernel)
set_option maxRecDepth 20000 in
theorem gX1_risk_X1_riskOf : GoodIn wsX1_risk (wsV RX1 66 RX1 yX1_riskOf wsX1_riskOf) := goodIn_app (goodIn_of _ (by decide +kernel)) ggX1_risk_X1_riskOf
set_option maxRecDepth 20000 in
theorem ggX1_risk_X1_no : GoodIn wsX1_risk wsX1_no := goodIn_r _ [36, 1, 37, 38, 39, 40, 41, 42, 43, 44, 45, 46, 47, 48, 49] (by decide +kernel) (by decide +kernel)
set_option maxRecDepth 20000 in
theorem gX1_risk_X1_no : GoodIn wsX1_risk (wsV RX1 96 RX1 yX1_no wsX1_no) := goodIn_app (goodIn_of _ (by decide +kernel)) ggX1_risk_X1_no
theorem dX1_risk_0 : decode cX1_risk 0 = .ok (.aload_n 0, 1) := by decide +kernel
theorem dX1_risk_1 : decode cX1_risk 1 = .ok (.iconst 0, 1) := by decide +kernel
theorem dX1_risk_2 : decode cX1_risk 2 = .ok (.putfield 42, 3) := by decide +kernel
theorem dX1_risk_5 : decode cX1_risk 5 = .ok (.aload_n 0, 1) := by decide +kernel
theorem dX1_risk_6 : decode cX1_risk 6 = .ok (.invokevirtual 116, 3) := by decide +kernel
theorem dX1_risk_9 : decode cX1_risk 9 = .ok (.aload_n 0, 1) := by decide +kernel
theorem dX1_risk_10 : decode cX1_risk 10 = .ok (.iload_n 1, 1) := by decide +kernel
theorem dX1_risk_11 : decode cX1_risk 11 = .ok (.invokevirtual 106, 3) := by decide +kernel
theorem dX1_risk_14 : decode cX1_risk 14 = .ok (.ifCond .eq 12, 3) := by decide +kernel
theorem dX1_risk_17 : decode cX1_risk 17 = .ok (.aload_n 0, 1) := by decide +kernel
theorem dX1_risk_18 : decode cX1_risk 18 = .ok (.iload_n 1, 1) := by decide +kernel
theorem dX1_risk_19 : decode cX1_risk 19 = .ok (.iload_n 2, 1) := by decide +kernel
theorem dX1_risk_20 : decode cX1_risk 20 = .ok (.invokevirtual 66, 3) := by decide +kernel
theorem dX1_risk_23 : decode cX1_risk 23 = .ok (.goto 8, 3) := by decide +kernel
theorem dX1_risk_26 : decode cX1_risk 26 = .ok (.aload_n 0, 1) := by decide +kernel
theorem dX1_risk_27 : decode cX1_risk 27 = .ok (.iconst 1, 1) := by decide +kernel
theorem dX1_risk_28 : decode cX1_risk 28 = .ok (.invokevirtual 96, 3) := by decide +kernel
theorem dX1_risk_31 : decode cX1_risk 31 = .ok (.ireturn, 1) := by decide +kernel
set_option maxRecDepth 20000 in
theorem ggX1_planTurnsRight_X1_table : GoodIn wsX1_planTurnsRight wsX1_table := goodIn_r _ [6, 7, 8, 9, 10, 11, 12, 13, 14, 15, 16, 17, 41, 42, 43, 44, 45, 46, 47, 48, 49, 50, 51, 52, 53] (by decide +kernel) (by decide +kernel)
set_option maxRecDepth 20000 in
theorem gX1_planTurnsRight_X1_table : GoodIn wsX1_planTurnsRight (wsV RX1 116 RX1 yX1_table wsX1_table) := goodIn_app (goodIn_of _ (by decide +kernel)) ggX1_planTurnsRight_X1_table
set_option maxRecDepth 20000 in
theorem ggX1_planTurnsRight_X1_isForkAt : GoodIn wsX1_planTurnsRight wsX1_isForkAt := goodIn_r _ [21, 8, 22, 23, 24, 5, 25, 7, 26, 27, 28, 41, 42, 43, 44, 45, 46, 47, 48, 49, 50, 51, 52, 53] (by decide +kernel) (by decide +kernel)
set_option maxRecDepth 20000 in
theorem gX1_planTurnsRight_X1_isForkAt : GoodIn wsX1_planTurnsRight (wsV RX1 106 RX1 yX1_isForkAt wsX1_isForkAt) := goodIn_app (goodIn_of _ (by decide +kernel)) ggX1_planTurnsRight_X1_isForkAt
set_option maxRecDepth 20000 in
theorem ggX1_planTurnsRight_X1_turnsRight : GoodIn wsX1_planTurnsRight wsX1_turnsRight := goodIn_r _ [32, 33, 34, 35, 5, 36, 12, 11, 17, 10, 13, 14, 15, 16, 9, 41, 42, 43, 44, 45, 46, 47, 48, 49, 50, 51, 52, 53] (by decide +kernel) (by decide +kernel)
set_option maxRecDepth 20000 in
theorem gX1_planTurnsRight_X1_turnsRight : GoodIn wsX1_planTurnsRight (wsV RX1 70 RX1 yX1_turnsRight wsX1_turnsRight) := goodIn_app (goodIn_of _ (by decide +kernel)) ggX1_planTurnsRight_X1_turnsRight
set_option maxRecDepth 20000 in
theorem ggX1_planTurnsRight_X1_isNot : GoodIn wsX1_planTurnsRight wsX1_isNot := goodIn_r _ [40, 1, 41, 42, 43, 44, 45, 46, 47, 48, 49, 50, 51, 52, 53] (by decide +kernel) (by decide +kernel)
set_option maxRecDepth 20000 in
theorem gX1_planTurnsRight_X1_isNot : GoodIn wsX1_planTurnsRight (wsV RX1 128 RX1 yX1_isNot wsX1_isNot) := goodIn_app (goodIn_of _ (by decide +kernel)) ggX1_planTurnsRight_X1_isNot
theorem dX1_planTurnsRight_0 : decode cX1_planTurnsRight 0 = .ok (.aload_n 0, 1) := by decide +kernel
theorem dX1_planTurnsRight_1 : decode cX1_planTurnsRight 1 = .ok (.iconst 0, 1) := by decide +kernel
theorem dX1_planTurnsRight_2 : decode cX1_planTurnsRight 2 = .ok (.putfield 42, 3) := by decide +kernel
theorem dX1_planTurnsRight_5 : decode cX1_planTurnsRight 5 = .ok (.aload_n 0, 1) := by decide +kernel
theorem dX1_planTurnsRight_6 : decode cX1_planTurnsRight 6 = .ok (.invokevirtual 116, 3) := by decide +kernel
theorem dX1_planTurnsRight_9 : decode cX1_planTurnsRight 9 = .ok (.aload_n 0, 1) := by decide +kernel
theorem dX1_planTurnsRight_10 : decode cX1_planTurnsRight 10 = .ok (.iload_n 1, 1) := by decide +kernel
theorem dX1_planTurnsRight_11 : decode cX1_planTurnsRight 11 = .ok (.invokevirtual 106, 3) := by decide +kernel
theorem dX1_planTurnsRight_14 : decode cX1_planTurnsRight 14 = .ok (.ifCond .eq 11, 3) := by decide +kernel
theorem dX1_planTurnsRight_17 : decode cX1_planTurnsRight 17 = .ok (.aload_n 0, 1) := by decide +kernel
theorem dX1_planTurnsRight_18 : decode cX1_planTurnsRight 18 = .ok (.iload_n 1, 1) := by decide +kernel
theorem dX1_planTurnsRight_19 : decode cX1_planTurnsRight 19 = .ok (.invokevirtual 70, 3) := by decide +kernel
theorem dX1_planTurnsRight_22 : decode cX1_planTurnsRight 22 = .ok (.goto 8, 3) := by decide +kernel
theorem dX1_planTurnsRight_25 : decode cX1_planTurnsRight 25 = .ok (.aload_n 0, 1) := by decide +kernel
theorem dX1_planTurnsRight_26 : decode cX1_planTurnsRight 26 = .ok (.iconst 1, 1) := by decide +kernel
theorem dX1_planTurnsRight_27 : decode cX1_planTurnsRight 27 = .ok (.invokevirtual 128, 3) := by decide +kernel
theorem dX1_planTurnsRight_30 : decode cX1_planTurnsRight 30 = .ok (.ireturn, 1) := by decide +kernel
set_option maxRecDepth 20000 in
theorem ggX1_planLeadsTo_X1_table : GoodIn wsX1_planLeadsTo wsX1_table := goodIn_r _ [6, 7, 8, 9, 10, 11, 12, 13, 14, 15, 16, 17, 45, 46, 47, 48, 49, 50, 51, 52, 53, 54, 55, 56, 57] (by decide +kernel) (by decide +kernel)
set_option maxRecDepth 20000 in
theorem gX1_planLeadsTo_X1_table : GoodIn wsX1_planLeadsTo (wsV RX1 116 RX1 yX1_table wsX1_table) := goodIn_app (goodIn_of _ (by decide +kernel)) ggX1_planLeadsTo_X1_table
set_option maxRecDepth 20000 in
theorem ggX1_planLeadsTo_X1_isPlace : GoodIn wsX1_planLeadsTo wsX1_isPlace := goodIn_r _ [21, 7, 22, 23, 5, 24, 45, 46, 47, 48, 49, 50, 51, 52, 53, 54, 55, 56, 57] (by decide +kernel) (by decide +kernel)
set_option maxRecDepth 20000 in
theorem gX1_planLeadsTo_X1_isPlace : GoodIn wsX1_planLeadsTo (wsV RX1 53 RX1 yX1_isPlace wsX1_isPlace) := goodIn_app (goodIn_of _ (by decide +kernel)) ggX1_planLeadsTo_X1_isPlace
set_option maxRecDepth 20000 in
theorem ggX1_planLeadsTo_X1_leads : GoodIn wsX1_planLeadsTo wsX1_leads := goodIn_r _ [28, 8, 29, 30, 31, 5, 32, 12, 11, 33, 34, 35, 36, 37, 38, 39, 40, 17, 10, 13, 14, 15, 16, 9, 45, 46, 47, 48, 49, 50, 51, 52, 53, 54, 55, 56, 57] (by decide +kernel) (by decide +kernel)
set_option maxRecDepth 20000 in
theorem gX1_planLeadsTo_X1_leads : GoodIn wsX1_planLeadsTo (wsV RX1 144 RX1 yX1_leads wsX1_leads) := goodIn_app (goodIn_of _ (by decide +kernel)) ggX1_planLeadsTo_X1_leads
set_option maxRecDepth 20000 in
theorem ggX1_planLeadsTo_X1_no : GoodIn wsX1_planLeadsTo wsX1_no := goodIn_r _ [44, 1, 45, 46, 47, 48, 49, 50, 51, 52, 53, 54, 55, 56, 57] (by decide +kernel) (by decide +kernel)
set_option maxRecDepth 20000 in
theorem gX1_planLeadsTo_X1_no : GoodIn wsX1_planLeadsTo (wsV RX1 96 RX1 yX1_no wsX1_no) := goodIn_app (goodIn_of _ (by decide +kernel)) ggX1_planLeadsTo_X1_no
theorem dX1_planLeadsTo_0 : decode cX1_planLeadsTo 0 = .ok (.aload_n 0, 1) := by decide +kernel
theorem dX1_planLeadsTo_1 : decode cX1_planLeadsTo 1 = .ok (.iconst 0, 1) := by decide +kernel
theorem dX1_planLeadsTo_2 : decode cX1_planLeadsTo 2 = .ok (.putfield 42, 3) := by decide +kernel
theorem dX1_planLeadsTo_5 : decode cX1_planLeadsTo 5 = .ok (.aload_n 0, 1) := by decide +kernel
theorem dX1_planLeadsTo_6 : decode cX1_planLeadsTo 6 = .ok (.invokevirtual 116, 3) := by decide +kernel
theorem dX1_planLeadsTo_9 : decode cX1_planLeadsTo 9 = .ok (.aload_n 0, 1) := by decide +kernel
theorem dX1_planLeadsTo_10 : decode cX1_planLeadsTo 10 = .ok (.iload_n 1, 1) := by decide +kernel
theorem dX1_planLeadsTo_11 : decode cX1_planLeadsTo 11 = .ok (.invokevirtual 53, 3) := by decide +kernel
theorem dX1_planLeadsTo_14 : decode cX1_planLeadsTo 14 = .ok (.ifCond .eq 11, 3) := by decide +kernel
theorem dX1_planLeadsTo_17 : decode cX1_planLeadsTo 17 = .ok (.aload_n 0, 1) := by decide +kernel
theorem dX1_planLeadsTo_18 : decode cX1_planLeadsTo 18 = .ok (.iload_n 1, 1) := by decide +kernel
theorem dX1_planLeadsTo_19 : decode cX1_planLeadsTo 19 = .ok (.invokevirtual 144, 3) := by decide +kernel
theorem dX1_planLeadsTo_22 : decode cX1_planLeadsTo 22 = .ok (.goto 8, 3) := by decide +kernel
theorem dX1_planLeadsTo_25 : decode cX1_planLeadsTo 25 = .ok (.aload_n 0, 1) := by decide +kernel
theorem dX1_planLeadsTo_26 : decode cX1_planLeadsTo 26 = .ok (.iconst 1, 1) := by decide +kernel
theorem dX1_planLeadsTo_27 : decode cX1_planLeadsTo 27 = .ok (.invokevirtual 96, 3) := by decide +kernel
theorem dX1_planLeadsTo_30 : decode cX1_planLeadsTo 30 = .ok (.ireturn, 1) := by decide +kernel
set_option maxRecDepth 20000 in
theorem ggX1_riskiestFork_X1_table : GoodIn wsX1_riskiestFork wsX1_table := goodIn_r _ [5, 6, 7, 8, 9, 10, 11, 12, 13, 14, 15, 16, 33, 34, 35, 36, 37, 38, 39, 40, 41, 42, 43, 44, 45] (by decide +kernel) (by decide +kernel)
set_option maxRecDepth 20000 in
theorem gX1_riskiestFork_X1_table : GoodIn wsX1_riskiestFork (wsV RX1 116 RX1 yX1_table wsX1_table) := goodIn_app (goodIn_of _ (by decide +kernel)) ggX1_riskiestFork_X1_table
set_option maxRecDepth 20000 in
theorem ggX1_riskiestFork_X1_riskiest : GoodIn wsX1_riskiestFork wsX1_riskiest := goodIn_r _ [20, 6, 7, 21, 22, 14, 23, 24, 25, 26, 4, 27, 11, 10, 16, 9, 12, 13, 15, 8, 33, 34, 35, 36, 37, 38, 39, 40, 41, 42, 43, 44, 45] (by decide +kernel) (by decide +kernel)
set_option maxRecDepth 20000 in
theorem gX1_riskiestFork_X1_riskiest : GoodIn wsX1_riskiestFork (wsV RX1 147 RX1 yX1_riskiest wsX1_riskiest) := goodIn_app (goodIn_of _ (by decide +kernel)) ggX1_riskiestFork_X1_riskiest
set_option maxRecDepth 20000 in
theorem ggX1_riskiestFork_X1_ok : GoodIn wsX1_riskiestFork wsX1_ok := goodIn_r _ [31, 32, 33, 34, 35, 36, 37, 38, 39, 40, 41, 42, 43, 44, 45] (by decide +kernel) (by decide +kernel)
set_option maxRecDepth 20000 in
theorem gX1_riskiestFork_X1_ok : GoodIn wsX1_riskiestFork (wsV RX1 119 RX1 yX1_ok wsX1_ok) := goodIn_app (goodIn_of _ (by decide +kernel)) ggX1_riskiestFork_X1_ok
theorem dX1_riskiestFork_0 : decode cX1_riskiestFork 0 = .ok (.aload_n 0, 1) := by decide +kernel
theorem dX1_riskiestFork_1 : decode cX1_riskiestFork 1 = .ok (.invokevirtual 116, 3) := by decide +kernel
theorem dX1_riskiestFork_4 : decode cX1_riskiestFork 4 = .ok (.aload_n 0, 1) := by decide +kernel
theorem dX1_riskiestFork_5 : decode cX1_riskiestFork 5 = .ok (.aload_n 0, 1) := by decide +kernel
theorem dX1_riskiestFork_6 : decode cX1_riskiestFork 6 = .ok (.invokevirtual 147, 3) := by decide +kernel
theorem dX1_riskiestFork_9 : decode cX1_riskiestFork 9 = .ok (.invokevirtual 119, 3) := by decide +kernel
theorem dX1_riskiestFork_12 : decode cX1_riskiestFork 12 = .ok (.ireturn, 1) := by decide +kernel
set_option maxRecDepth 20000 in
theorem ggX1_hindsight_X1_isForkAt : GoodIn wsX1_hindsight wsX1_isForkAt := goodIn_r _ [6, 7, 8, 9, 10, 5, 11, 12, 13, 14, 15, 34, 35, 36, 37, 38, 39, 40, 41, 42, 43, 44, 45, 46] (by decide +kernel) (by decide +kernel)
set_option maxRecDepth 20000 in
theorem gX1_hindsight_X1_isForkAt : GoodIn wsX1_hindsight (wsV RX1 106 RX1 yX1_isForkAt wsX1_isForkAt) := goodIn_app (goodIn_of _ (by decide +kernel)) ggX1_hindsight_X1_isForkAt
set_option maxRecDepth 20000 in
theorem ggX1_hindsight_X1_behind : GoodIn wsX1_hindsight wsX1_behind := goodIn_r _ [19, 7, 20, 21, 22, 23, 24, 25, 26, 27, 5, 28, 29, 34, 35, 36, 37, 38, 39, 40, 41, 42, 43, 44, 45, 46] (by decide +kernel) (by decide +kernel)
set_option maxRecDepth 20000 in
theorem gX1_hindsight_X1_behind : GoodIn wsX1_hindsight (wsV RX1 84 RX1 yX1_behind wsX1_behind) := goodIn_app (goodIn_of _ (by decide +kernel)) ggX1_hindsight_X1_behind
set_option maxRecDepth 20000 in
theorem ggX1_hindsight_X1_no : GoodIn wsX1_hindsight wsX1_no := goodIn_r _ [33, 1, 34, 35, 36, 37, 38, 39, 40, 41, 42, 43, 44, 45, 46] (by decide +kernel) (by decide +kernel)
set_option maxRecDepth 20000 in
theorem gX1_hindsight_X1_no : GoodIn wsX1_hindsight (wsV RX1 96 RX1 yX1_no wsX1_no) := goodIn_app (goodIn_of _ (by decide +kernel)) ggX1_hindsight_X1_no
theorem dX1_hindsight_0 : decode cX1_hindsight 0 = .ok (.aload_n 0, 1) := by decide +kernel
theorem dX1_hindsight_1 : decode cX1_hindsight 1 = .ok (.iconst 0, 1) := by decide +kernel
theorem dX1_hindsight_2 : decode cX1_hindsight 2 = .ok (.putfield 42, 3) := by decide +kernel
theorem dX1_hindsight_5 : decode cX1_hindsight 5 = .ok (.aload_n 0, 1) := by decide +kernel
theorem dX1_hindsight_6 : decode cX1_hindsight 6 = .ok (.iload_n 1, 1) := by decide +kernel
theorem dX1_hindsight_7 : decode cX1_hindsight 7 = .ok (.invokevirtual 106, 3) := by decide +kernel
theorem dX1_hindsight_10 : decode cX1_hindsight 10 = .ok (.ifCond .eq 11, 3) := by decide +kernel
theorem dX1_hindsight_13 : decode cX1_hindsight 13 = .ok (.aload_n 0, 1) := by decide +kernel
theorem dX1_hindsight_14 : decode cX1_hindsight 14 = .ok (.iload_n 1, 1) := by decide +kernel
theorem dX1_hindsight_15 : decode cX1_hindsight 15 = .ok (.invokevirtual 84, 3) := by decide +kernel
theorem dX1_hindsight_18 : decode cX1_hindsight 18 = .ok (.goto 8, 3) := by decide +kernel
theorem dX1_hindsight_21 : decode cX1_hindsight 21 = .ok (.aload_n 0, 1) := by decide +kernel
theorem dX1_hindsight_22 : decode cX1_hindsight 22 = .ok (.iconst 1, 1) := by decide +kernel
theorem dX1_hindsight_23 : decode cX1_hindsight 23 = .ok (.invokevirtual 96, 3) := by decide +kernel
theorem dX1_hindsight_26 : decode cX1_hindsight 26 = .ok (.ireturn, 1) := by decide +kernel
set_option maxRecDepth 20000 in
theorem ggX1_regretOf_X1_isStudent : GoodIn wsX1_regretOf wsX1_isStudent := goodIn_r _ [6, 7, 8, 9, 5, 10, 45, 46, 47, 48, 49, 50, 51, 52, 53, 54, 55, 56, 57] (by decide +kernel) (by decide +kernel)
set_option maxRecDepth 20000 in
theorem gX1_regretOf_X1_isStudent : GoodIn wsX1_regretOf (wsV RX1 109 RX1 yX1_isStudent wsX1_isStudent) := goodIn_app (goodIn_of _ (by decide +kernel)) ggX1_regretOf_X1_isStudent
set_option maxRecDepth 20000 in
theorem ggX1_regretOf_X1_no : GoodIn wsX1_regretOf wsX1_no := goodIn_r _ [14, 1, 45, 46, 47, 48, 49, 50, 51, 52, 53, 54, 55, 56, 57] (by decide +kernel) (by decide +kernel)
set_option maxRecDepth 20000 in
theorem gX1_regretOf_X1_no : GoodIn wsX1_regretOf (wsV RX1 96 RX1 yX1_no wsX1_no) := goodIn_app (goodIn_of _ (by decide +kernel)) ggX1_regretOf_X1_no
set_option maxRecDepth 20000 in
theorem ggX1_regretOf_X1_isKnown : GoodIn wsX1_regretOf wsX1_isKnown := goodIn_r _ [18, 19, 20, 21, 45, 46, 47, 48, 49, 50, 51, 52, 53, 54, 55, 56, 57] (by decide +kernel) (by decide +kernel)
set_option maxRecDepth 20000 in
theorem gX1_regretOf_X1_isKnown : GoodIn wsX1_regretOf (wsV RX1 90 RX1 yX1_isKnown wsX1_isKnown) := goodIn_app (goodIn_of _ (by decide +kernel)) ggX1_regretOf_X1_isKnown
set_option maxRecDepth 20000 in
theorem ggX1_regretOf_X1_regrets : GoodIn wsX1_regretOf wsX1_regrets := goodIn_r _ [25, 26, 27, 28, 29, 5, 30, 31, 21, 20, 32, 33, 34, 35, 36, 37, 38, 39, 19, 40, 41, 42, 43, 44, 45, 46, 47, 48, 49, 50, 51, 52, 53, 54, 55, 56, 57] (by decide +kernel) (by decide +kernel)
set_option maxRecDepth 20000 in
theorem gX1_regretOf_X1_regrets : GoodIn wsX1_regretOf (wsV RX1 93 RX1 yX1_regrets wsX1_regrets) := goodIn_app (goodIn_of _ (by decide +kernel)) ggX1_regretOf_X1_regrets
theorem dX1_regretOf_0 : decode cX1_regretOf 0 = .ok (.aload_n 0, 1) := by decide +kernel
theorem dX1_regretOf_1 : decode cX1_regretOf 1 = .ok (.iconst 0, 1) := by decide +kernel
theorem dX1_regretOf_2 : decode cX1_regretOf 2 = .ok (.putfield 42, 3) := by decide +kernel
theorem dX1_regretOf_5 : decode cX1_regretOf 5 = .ok (.aload_n 0, 1) := by decide +kernel
theorem dX1_regretOf_6 : decode cX1_regretOf 6 = .ok (.iload_n 1, 1) := by decide +kernel
theorem dX1_regretOf_7 : decode cX1_regretOf 7 = .ok (.invokevirtual 109, 3) := by decide +kernel
theorem dX1_regretOf_10 : decode cX1_regretOf 10 = .ok (.ifCond .ne 9, 3) := by decide +kernel
theorem dX1_regretOf_13 : decode cX1_regretOf 13 = .ok (.aload_n 0, 1) := by decide +kernel
theorem dX1_regretOf_14 : decode cX1_regretOf 14 = .ok (.iconst 1, 1) := by decide +kernel
theorem dX1_regretOf_15 : decode cX1_regretOf 15 = .ok (.invokevirtual 96, 3) := by decide +kernel
theorem dX1_regretOf_18 : decode cX1_regretOf 18 = .ok (.ireturn, 1) := by decide +kernel
theorem dX1_regretOf_19 : decode cX1_regretOf 19 = .ok (.aload_n 0, 1) := by decide +kernel
theorem dX1_regretOf_20 : decode cX1_regretOf 20 = .ok (.iload_n 1, 1) := by decide +kernel
theorem dX1_regretOf_21 : decode cX1_regretOf 21 = .ok (.invokevirtual 90, 3) := by decide +kernel
theorem dX1_regretOf_24 : decode cX1_regretOf 24 = .ok (.ifCond .eq 11, 3) := by decide +kernel
theorem dX1_regretOf_27 : decode cX1_regretOf 27 = .ok (.aload_n 0, 1) := by decide +kernel
theorem dX1_regretOf_28 : decode cX1_regretOf 28 = .ok (.iload_n 1, 1) := by decide +kernel
theorem dX1_regretOf_29 : decode cX1_regretOf 29 = .ok (.invokevirtual 93, 3) := by decide +kernel
theorem dX1_regretOf_32 : decode cX1_regretOf 32 = .ok (.goto 8, 3) := by decide +kernel
theorem dX1_regretOf_35 : decode cX1_regretOf 35 = .ok (.aload_n 0, 1) := by decide +kernel
theorem dX1_regretOf_36 : decode cX1_regretOf 36 = .ok (.iconst 2, 1) := by decide +kernel
theorem dX1_regretOf_37 : decode cX1_regretOf 37 = .ok (.invokevirtual 96, 3) := by decide +kernel
theorem dX1_regretOf_40 : decode cX1_regretOf 40 = .ok (.ireturn, 1) := by decide +kernel
set_option maxRecDepth 20000 in
theorem ggX1_worst_X1_regret : GoodIn wsX1_worst wsX1_regret := goodIn_r _ [7, 2, 8, 9, 10, 11, 12, 13, 14, 15, 16, 6, 17, 18, 19, 20, 21, 22, 23, 24, 25, 26, 27, 28, 29, 30, 31, 32, 33, 34, 35, 36] (by decide +kernel) (by decide +kernel)
set_option maxRecDepth 20000 in
theorem gX1_worst_X1_regret : GoodIn wsX1_worst (wsV RX1 87 RX1 yX1_regret wsX1_regret) := goodIn_app (goodIn_of _ (by decide +kernel)) ggX1_worst_X1_regret
theorem dX1_worst_0 : decode cX1_worst 0 = .ok (.iconst (-1), 1) := by decide +kernel
theorem dX1_worst_1 : decode cX1_worst 1 = .ok (.istore_n 2, 1) := by decide +kernel
theorem dX1_worst_2 : decode cX1_worst 2 = .ok (.iconst 0, 1) := by decide +kernel
theorem dX1_worst_3 : decode cX1_worst 3 = .ok (.istore_n 3, 1) := by decide +kernel
theorem dX1_worst_4 : decode cX1_worst 4 = .ok (.iconst 0, 1) := by decide +kernel
theorem dX1_worst_5 : decode cX1_worst 5 = .ok (.istore 4, 2) := by decide +kernel
theorem dX1_worst_7 : decode cX1_worst 7 = .ok (.iload 4, 2) := by decide +kernel
theorem dX1_worst_9 : decode cX1_worst 9 = .ok (.aload_n 0, 1) := by decide +kernel
theorem dX1_worst_10 : decode cX1_worst 10 = .ok (.getfield 36, 3) := by decide +kernel
theorem dX1_worst_13 : decode cX1_worst 13 = .ok (.iload_n 1, 1) := by decide +kernel
theorem dX1_worst_14 : decode cX1_worst 14 = .ok (.iaload, 1) := by decide +kernel
theorem dX1_worst_15 : decode cX1_worst 15 = .ok (.if_icmp .ge 44, 3) := by decide +kernel
theorem dX1_worst_18 : decode cX1_worst 18 = .ok (.aload_n 0, 1) := by decide +kernel
theorem dX1_worst_19 : decode cX1_worst 19 = .ok (.iload_n 1, 1) := by decide +kernel
theorem dX1_worst_20 : decode cX1_worst 20 = .ok (.iload 4, 2) := by decide +kernel
theorem dX1_worst_22 : decode cX1_worst 22 = .ok (.invokevirtual 87, 3) := by decide +kernel
theorem dX1_worst_25 : decode cX1_worst 25 = .ok (.iload_n 3, 1) := by decide +kernel
theorem dX1_worst_26 : decode cX1_worst 26 = .ok (.if_icmp .gt 6, 3) := by decide +kernel
theorem dX1_worst_29 : decode cX1_worst 29 = .ok (.goto 24, 3) := by decide +kernel
theorem dX1_worst_32 : decode cX1_worst 32 = .ok (.aload_n 0, 1) := by decide +kernel
theorem dX1_worst_33 : decode cX1_worst 33 = .ok (.getfield 39, 3) := by decide +kernel
theorem dX1_worst_36 : decode cX1_worst 36 = .ok (.bipush 40, 2) := by decide +kernel
theorem dX1_worst_38 : decode cX1_worst 38 = .ok (.iload_n 1, 1) := by decide +kernel
theorem dX1_worst_39 : decode cX1_worst 39 = .ok (.imul, 1) := by decide +kernel
theorem dX1_worst_40 : decode cX1_worst 40 = .ok (.iload 4, 2) := by decide +kernel
theorem dX1_worst_42 : decode cX1_worst 42 = .ok (.iadd, 1) := by decide +kernel
theorem dX1_worst_43 : decode cX1_worst 43 = .ok (.iaload, 1) := by decide +kernel
theorem dX1_worst_44 : decode cX1_worst 44 = .ok (.istore_n 2, 1) := by decide +kernel
theorem dX1_worst_45 : decode cX1_worst 45 = .ok (.aload_n 0, 1) := by decide +kernel
theorem dX1_worst_46 : decode cX1_worst 46 = .ok (.iload_n 1, 1) := by decide +kernel
theorem dX1_worst_47 : decode cX1_worst 47 = .ok (.iload 4, 2) := by decide +kernel
theorem dX1_worst_49 : decode cX1_worst 49 = .ok (.invokevirtual 87, 3) := by decide +kernel
theorem dX1_worst_52 : decode cX1_worst 52 = .ok (.istore_n 3, 1) := by decide +kernel
theorem dX1_worst_53 : decode cX1_worst 53 = .ok (.iinc 4 1, 3) := by decide +kernel
theorem dX1_worst_56 : decode cX1_worst 56 = .ok (.goto (-49), 3) := by decide +kernel
theorem dX1_worst_59 : decode cX1_worst 59 = .ok (.iload_n 2, 1) := by decide +kernel
theorem dX1_worst_60 : decode cX1_worst 60 = .ok (.ireturn, 1) := by decide +kernel
set_option maxRecDepth 20000 in
theorem ggX1_worstFork_X1_isStudent : GoodIn wsX1_worstFork wsX1_isStudent := goodIn_r _ [6, 7, 8, 9, 5, 10, 45, 46, 47, 48, 49, 50, 51, 52, 53, 54, 55, 56, 57] (by decide +kernel) (by decide +kernel)
set_option maxRecDepth 20000 in
theorem gX1_worstFork_X1_isStudent : GoodIn wsX1_worstFork (wsV RX1 109 RX1 yX1_isStudent wsX1_isStudent) := goodIn_app (goodIn_of _ (by decide +kernel)) ggX1_worstFork_X1_isStudent
set_option maxRecDepth 20000 in
theorem ggX1_worstFork_X1_no : GoodIn wsX1_worstFork wsX1_no := goodIn_r _ [14, 1, 45, 46, 47, 48, 49, 50, 51, 52, 53, 54, 55, 56, 57] (by decide +kernel) (by decide +kernel)
set_option maxRecDepth 20000 in
theorem gX1_worstFork_X1_no : GoodIn wsX1_worstFork (wsV RX1 96 RX1 yX1_no wsX1_no) := goodIn_app (goodIn_of _ (by decide +kernel)) ggX1_worstFork_X1_no
set_option maxRecDepth 20000 in
theorem ggX1_worstFork_X1_isKnown : GoodIn wsX1_worstFork wsX1_isKnown := goodIn_r _ [18, 19, 20, 21, 45, 46, 47, 48, 49, 50, 51, 52, 53, 54, 55, 56, 57] (by decide +kernel) (by decide +kernel)
set_option maxRecDepth 20000 in
theorem gX1_worstFork_X1_isKnown : GoodIn wsX1_worstFork (wsV RX1 90 RX1 yX1_isKnown wsX1_isKnown) := goodIn_app (goodIn_of _ (by decide +kernel)) ggX1_worstFork_X1_isKnown
set_option maxRecDepth 20000 in
theorem ggX1_worstFork_X1_worst : GoodIn wsX1_worstFork wsX1_worst := goodIn_r _ [25, 26, 27, 28, 29, 30, 5, 31, 21, 20, 32, 33, 34, 35, 36, 37, 38, 39, 19, 40, 41, 42, 43, 44, 45, 46, 47, 48, 49, 50, 51, 52, 53, 54, 55, 56, 57] (by decide +kernel) (by decide +kernel)
set_option maxRecDepth 20000 in
theorem gX1_worstFork_X1_worst : GoodIn wsX1_worstFork (wsV RX1 150 RX1 yX1_worst wsX1_worst) := goodIn_app (goodIn_of _ (by decide +kernel)) ggX1_worstFork_X1_worst
theorem dX1_worstFork_0 : decode cX1_worstFork 0 = .ok (.aload_n 0, 1) := by decide +kernel
theorem dX1_worstFork_1 : decode cX1_worstFork 1 = .ok (.iconst 0, 1) := by decide +kernel
theorem dX1_worstFork_2 : decode cX1_worstFork 2 = .ok (.putfield 42, 3) := by decide +kernel
theorem dX1_worstFork_5 : decode cX1_worstFork 5 = .ok (.aload_n 0, 1) := by decide +kernel
theorem dX1_worstFork_6 : decode cX1_worstFork 6 = .ok (.iload_n 1, 1) := by decide +kernel
theorem dX1_worstFork_7 : decode cX1_worstFork 7 = .ok (.invokevirtual 109, 3) := by decide +kernel
theorem dX1_worstFork_10 : decode cX1_worstFork 10 = .ok (.ifCond .ne 9, 3) := by decide +kernel
theorem dX1_worstFork_13 : decode cX1_worstFork 13 = .ok (.aload_n 0, 1) := by decide +kernel
theorem dX1_worstFork_14 : decode cX1_worstFork 14 = .ok (.iconst 1, 1) := by decide +kernel
theorem dX1_worstFork_15 : decode cX1_worstFork 15 = .ok (.invokevirtual 96, 3) := by decide +kernel
theorem dX1_worstFork_18 : decode cX1_worstFork 18 = .ok (.ireturn, 1) := by decide +kernel
theorem dX1_worstFork_19 : decode cX1_worstFork 19 = .ok (.aload_n 0, 1) := by decide +kernel
theorem dX1_worstFork_20 : decode cX1_worstFork 20 = .ok (.iload_n 1, 1) := by decide +kernel
theorem dX1_worstFork_21 : decode cX1_worstFork 21 = .ok (.invokevirtual 90, 3) := by decide +kernel
theorem dX1_worstFork_24 : decode cX1_worstFork 24 = .ok (.ifCond .eq 11, 3) := by decide +kernel
theorem dX1_worstFork_27 : decode cX1_worstFork 27 = .ok (.aload_n 0, 1) := by decide +kernel
theorem dX1_worstFork_28 : decode cX1_worstFork 28 = .ok (.iload_n 1, 1) := by decide +kernel
theorem dX1_worstFork_29 : decode cX1_worstFork 29 = .ok (.invokevirtual 150, 3) := by decide +kernel
theorem dX1_worstFork_32 : decode cX1_worstFork 32 = .ok (.goto 8, 3) := by decide +kernel
theorem dX1_worstFork_35 : decode cX1_worstFork 35 = .ok (.aload_n 0, 1) := by decide +kernel
theorem dX1_worstFork_36 : decode cX1_worstFork 36 = .ok (.iconst 2, 1) := by decide +kernel
theorem dX1_worstFork_37 : decode cX1_worstFork 37 = .ok (.invokevirtual 96, 3) := by decide +kernel
theorem dX1_worstFork_40 : decode cX1_worstFork 40 = .ok (.ireturn, 1) := by decide +kernel
set_option maxRecDepth 20000 in
theorem ggX1_allRegret_X1_allRegrets : GoodIn wsX1_allRegret wsX1_allRegrets := goodIn_r _ [5, 6, 7, 8, 9, 4, 10, 11, 12, 13, 14, 15, 16, 17, 18, 19, 20, 21, 22, 23, 24, 25, 26, 27, 28, 29, 30, 31, 32, 33, 34, 35, 36, 42, 43, 44, 45, 46, 47, 48, 49, 50, 51, 52, 53, 54] (by decide +kernel) (by decide +kernel)
set_option maxRecDepth 20000 in
theorem gX1_allRegret_X1_allRegrets : GoodIn wsX1_allRegret (wsV RX1 153 RX1 yX1_allRegrets wsX1_allRegrets) := goodIn_app (goodIn_of _ (by decide +kernel)) ggX1_allRegret_X1_allRegrets
set_option maxRecDepth 20000 in
theorem ggX1_allRegret_X1_ok : GoodIn wsX1_allRegret wsX1_ok := goodIn_r _ [40, 41, 42, 43, 44, 45, 46, 47, 48, 49, 50, 51, 52, 53, 54] (by decide +kernel) (by decide +kernel)
set_option maxRecDepth 20000 in
theorem gX1_allRegret_X1_ok : GoodIn wsX1_allRegret (wsV RX1 119 RX1 yX1_ok wsX1_ok) := goodIn_app (goodIn_of _ (by decide +kernel)) ggX1_allRegret_X1_ok
theorem dX1_allRegret_0 : decode cX1_allRegret 0 = .ok (.aload_n 0, 1) := by decide +kernel
theorem dX1_allRegret_1 : decode cX1_allRegret 1 = .ok (.aload_n 0, 1) := by decide +kernel
theorem dX1_allRegret_2 : decode cX1_allRegret 2 = .ok (.invokevirtual 153, 3) := by decide +kernel
theorem dX1_allRegret_5 : decode cX1_allRegret 5 = .ok (.invokevirtual 119, 3) := by decide +kernel
theorem dX1_allRegret_8 : decode cX1_allRegret 8 = .ok (.ireturn, 1) := by decide +kernel
set_option maxRecDepth 20000 in
theorem ggX1_meanGrade_X1_gradedNow : GoodIn wsX1_meanGrade wsX1_gradedNow := goodIn_r _ [9, 2, 3, 4, 10, 11, 12, 13, 14, 15, 16, 17, 18, 19, 20, 21, 22] (by decide +kernel) (by decide +kernel)
set_option maxRecDepth 20000 in
theorem gX1_meanGrade_X1_gradedNow : GoodIn wsX1_meanGrade (wsV RX1 102 RX1 yX1_gradedNow wsX1_gradedNow) := goodIn_app (goodIn_of _ (by decide +kernel)) ggX1_meanGrade_X1_gradedNow
theorem dX1_meanGrade_0 : decode cX1_meanGrade 0 = .ok (.aload_n 0, 1) := by decide +kernel
theorem dX1_meanGrade_1 : decode cX1_meanGrade 1 = .ok (.iconst 0, 1) := by decide +kernel
theorem dX1_meanGrade_2 : decode cX1_meanGrade 2 = .ok (.putfield 42, 3) := by decide +kernel
theorem dX1_meanGrade_5 : decode cX1_meanGrade 5 = .ok (.iconst 0, 1) := by decide +kernel
theorem dX1_meanGrade_6 : decode cX1_meanGrade 6 = .ok (.istore_n 1, 1) := by decide +kernel
theorem dX1_meanGrade_7 : decode cX1_meanGrade 7 = .ok (.iconst 0, 1) := by decide +kernel
theorem dX1_meanGrade_8 : decode cX1_meanGrade 8 = .ok (.istore_n 2, 1) := by decide +kernel
theorem dX1_meanGrade_9 : decode cX1_meanGrade 9 = .ok (.iload_n 2, 1) := by decide +kernel
theorem dX1_meanGrade_10 : decode cX1_meanGrade 10 = .ok (.aload_n 0, 1) := by decide +kernel
theorem dX1_meanGrade_11 : decode cX1_meanGrade 11 = .ok (.getfield 46, 3) := by decide +kernel
theorem dX1_meanGrade_14 : decode cX1_meanGrade 14 = .ok (.if_icmp .ge 41, 3) := by decide +kernel
theorem dX1_meanGrade_17 : decode cX1_meanGrade 17 = .ok (.iload_n 1, 1) := by decide +kernel
theorem dX1_meanGrade_18 : decode cX1_meanGrade 18 = .ok (.aload_n 0, 1) := by decide +kernel
theorem dX1_meanGrade_19 : decode cX1_meanGrade 19 = .ok (.getfield 9, 3) := by decide +kernel
theorem dX1_meanGrade_22 : decode cX1_meanGrade 22 = .ok (.iload_n 2, 1) := by decide +kernel
theorem dX1_meanGrade_23 : decode cX1_meanGrade 23 = .ok (.baload, 1) := by decide +kernel
theorem dX1_meanGrade_24 : decode cX1_meanGrade 24 = .ok (.ifCond .ne 22, 3) := by decide +kernel
theorem dX1_meanGrade_27 : decode cX1_meanGrade 27 = .ok (.aload_n 0, 1) := by decide +kernel
theorem dX1_meanGrade_28 : decode cX1_meanGrade 28 = .ok (.getfield 20, 3) := by decide +kernel
theorem dX1_meanGrade_31 : decode cX1_meanGrade 31 = .ok (.iload_n 2, 1) := by decide +kernel
theorem dX1_meanGrade_32 : decode cX1_meanGrade 32 = .ok (.iaload, 1) := by decide +kernel
theorem dX1_meanGrade_33 : decode cX1_meanGrade 33 = .ok (.iconst (-1), 1) := by decide +kernel
theorem dX1_meanGrade_34 : decode cX1_meanGrade 34 = .ok (.if_icmp .eq 12, 3) := by decide +kernel
theorem dX1_meanGrade_37 : decode cX1_meanGrade 37 = .ok (.aload_n 0, 1) := by decide +kernel
theorem dX1_meanGrade_38 : decode cX1_meanGrade 38 = .ok (.getfield 20, 3) := by decide +kernel
theorem dX1_meanGrade_41 : decode cX1_meanGrade 41 = .ok (.iload_n 2, 1) := by decide +kernel
theorem dX1_meanGrade_42 : decode cX1_meanGrade 42 = .ok (.iaload, 1) := by decide +kernel
theorem dX1_meanGrade_43 : decode cX1_meanGrade 43 = .ok (.goto 4, 3) := by decide +kernel
theorem dX1_meanGrade_46 : decode cX1_meanGrade 46 = .ok (.iconst 0, 1) := by decide +kernel
theorem dX1_meanGrade_47 : decode cX1_meanGrade 47 = .ok (.iadd, 1) := by decide +kernel
theorem dX1_meanGrade_48 : decode cX1_meanGrade 48 = .ok (.istore_n 1, 1) := by decide +kernel
theorem dX1_meanGrade_49 : decode cX1_meanGrade 49 = .ok (.iinc 2 1, 3) := by decide +kernel
theorem dX1_meanGrade_52 : decode cX1_meanGrade 52 = .ok (.goto (-43), 3) := by decide +kernel
theorem dX1_meanGrade_55 : decode cX1_meanGrade 55 = .ok (.aload_n 0, 1) := by decide +kernel
theorem dX1_meanGrade_56 : decode cX1_meanGrade 56 = .ok (.invokevirtual 102, 3) := by decide +kernel
theorem dX1_meanGrade_59 : decode cX1_meanGrade 59 = .ok (.ifCond .ne 7, 3) := by decide +kernel
theorem dX1_meanGrade_62 : decode cX1_meanGrade 62 = .ok (.dconst 0, 1) := by decide +kernel
theorem dX1_meanGrade_63 : decode cX1_meanGrade 63 = .ok (.goto 11, 3) := by decide +kernel
theorem dX1_meanGrade_66 : decode cX1_meanGrade 66 = .ok (.iload_n 1, 1) := by decide +kernel
theorem dX1_meanGrade_67 : decode cX1_meanGrade 67 = .ok (.i2d, 1) := by decide +kernel
theorem dX1_meanGrade_68 : decode cX1_meanGrade 68 = .ok (.aload_n 0, 1) := by decide +kernel
theorem dX1_meanGrade_69 : decode cX1_meanGrade 69 = .ok (.invokevirtual 102, 3) := by decide +kernel
theorem dX1_meanGrade_72 : decode cX1_meanGrade 72 = .ok (.i2d, 1) := by decide +kernel
theorem dX1_meanGrade_73 : decode cX1_meanGrade 73 = .ok (.ddiv, 1) := by decide +kernel
theorem dX1_meanGrade_74 : decode cX1_meanGrade 74 = .ok (.dreturn, 1) := by decide +kernel
set_option maxRecDepth 20000 in
theorem ggX1_digest_X1_table : GoodIn wsX1_digest wsX1_table := goodIn_r _ [19, 3, 7, 12, 8, 10, 11, 20, 21, 22, 23, 9, 89, 90, 91, 92, 93, 94, 95, 96, 97, 98, 99, 100, 101] (by decide +kernel) (by decide +kernel)
set_option maxRecDepth 20000 in
theorem gX1_digest_X1_table : GoodIn wsX1_digest (wsV RX1 116 RX1 yX1_table wsX1_table) := goodIn_app (goodIn_of _ (by decide +kernel)) ggX1_digest_X1_table
set_option maxRecDepth 20000 in
theorem ggX1_digest_X1_examsNow : GoodIn wsX1_digest wsX1_examsNow := goodIn_r _ [27, 3, 7, 89, 90, 91, 92, 93, 94, 95, 96, 97, 98, 99, 100, 101] (by decide +kernel) (by decide +kernel)
set_option maxRecDepth 20000 in
theorem gX1_digest_X1_examsNow : GoodIn wsX1_digest (wsV RX1 122 RX1 yX1_examsNow wsX1_examsNow) := goodIn_app (goodIn_of _ (by decide +kernel)) ggX1_digest_X1_examsNow
set_option maxRecDepth 20000 in
theorem ggX1_digest_X1_gradedNow : GoodIn wsX1_digest wsX1_gradedNow := goodIn_r _ [31, 3, 7, 12, 89, 90, 91, 92, 93, 94, 95, 96, 97, 98, 99, 100, 101] (by decide +kernel) (by decide +kernel)
set_option maxRecDepth 20000 in
theorem gX1_digest_X1_gradedNow : GoodIn wsX1_digest (wsV RX1 102 RX1 yX1_gradedNow wsX1_gradedNow) := goodIn_app (goodIn_of _ (by decide +kernel)) ggX1_digest_X1_gradedNow
set_option maxRecDepth 20000 in
theorem ggX1_digest_X1_atEnds : GoodIn wsX1_digest wsX1_atEnds := goodIn_r _ [35, 4, 7, 13, 89, 90, 91, 92, 93, 94, 95, 96, 97, 98, 99, 100, 101] (by decide +kernel) (by decide +kernel)
set_option maxRecDepth 20000 in
theorem gX1_digest_X1_atEnds : GoodIn wsX1_digest (wsV RX1 125 RX1 yX1_atEnds wsX1_atEnds) := goodIn_app (goodIn_of _ (by decide +kernel)) ggX1_digest_X1_atEnds
set_option maxRecDepth 20000 in
theorem ggX1_digest_X1_riskiest : GoodIn wsX1_digest wsX1_riskiest := goodIn_r _ [39, 3, 7, 40, 41, 22, 42, 43, 44, 45, 18, 46, 11, 10, 9, 8, 20, 21, 23, 12, 89, 90, 91, 92, 93, 94, 95, 96, 97, 98, 99, 100, 101] (by decide +kernel) (by decide +kernel)
set_option maxRecDepth 20000 in
theorem gX1_digest_X1_riskiest : GoodIn wsX1_digest (wsV RX1 147 RX1 yX1_riskiest wsX1_riskiest) := goodIn_app (goodIn_of _ (by decide +kernel)) ggX1_digest_X1_riskiest
set_option maxRecDepth 20000 in
theorem ggX1_digest_X1_allRegrets : GoodIn wsX1_digest wsX1_allRegrets := goodIn_r _ [50, 4, 51, 52, 53, 18, 54, 7, 13, 12, 55, 56, 57, 58, 14, 59, 60, 61, 62, 63, 20, 21, 22, 23, 64, 65, 66, 67, 68, 69, 70, 71, 72, 89, 90, 91, 92, 93, 94, 95, 96, 97, 98, 99, 100, 101] (by decide +kernel) (by decide +kernel)
set_option maxRecDepth 20000 in
theorem gX1_digest_X1_allRegrets : GoodIn wsX1_digest (wsV RX1 153 RX1 yX1_allRegrets wsX1_allRegrets) := goodIn_app (goodIn_of _ (by decide +kernel)) ggX1_digest_X1_allRegrets
set_option maxRecDepth 20000 in
theorem ggX1_digest_X1_examsOf : GoodIn wsX1_digest wsX1_examsOf := goodIn_r _ [76, 7, 68, 69, 70, 18, 71, 72, 89, 90, 91, 92, 93, 94, 95, 96, 97, 98, 99, 100, 101] (by decide +kernel) (by decide +kernel)
set_option maxRecDepth 20000 in
theorem gX1_digest_X1_examsOf : GoodIn wsX1_digest (wsV RX1 141 RX1 yX1_examsOf wsX1_examsOf) := goodIn_app (goodIn_of _ (by decide +kernel)) ggX1_digest_X1_examsOf
set_option maxRecDepth 20000 in
theorem ggX1_digest_X1_leads : GoodIn wsX1_digest wsX1_leads := goodIn_r _ [80, 7, 81, 82, 83, 18, 84, 11, 10, 85, 86, 87, 88, 43, 44, 45, 46, 9, 8, 20, 21, 22, 23, 12, 89, 90, 91, 92, 93, 94, 95, 96, 97, 98, 99, 100, 101] (by decide +kernel) (by decide +kernel)
set_option maxRecDepth 20000 in
theorem gX1_digest_X1_leads : GoodIn wsX1_digest (wsV RX1 144 RX1 yX1_leads wsX1_leads) := goodIn_app (goodIn_of _ (by decide +kernel)) ggX1_digest_X1_leads
set_option maxRecDepth 20000 in
theorem ggX1_digest_X1_behind : GoodIn wsX1_digest wsX1_behind := goodIn_r _ [67, 7, 12, 20, 21, 22, 23, 68, 69, 70, 18, 71, 72, 89, 90, 91, 92, 93, 94, 95, 96, 97, 98, 99, 100, 101] (by decide +kernel) (by decide +kernel)
set_option maxRecDepth 20000 in
theorem gX1_digest_X1_behind : GoodIn wsX1_digest (wsV RX1 84 RX1 yX1_behind wsX1_behind) := goodIn_app (goodIn_of _ (by decide +kernel)) ggX1_digest_X1_behind
theorem dX1_digest_0 : decode cX1_digest 0 = .ok (.aload_n 0, 1) := by decide +kernel
theorem dX1_digest_1 : decode cX1_digest 1 = .ok (.iconst 0, 1) := by decide +kernel
theorem dX1_digest_2 : decode cX1_digest 2 = .ok (.putfield 42, 3) := by decide +kernel
theorem dX1_digest_5 : decode cX1_digest 5 = .ok (.aload_n 0, 1) := by decide +kernel
theorem dX1_digest_6 : decode cX1_digest 6 = .ok (.invokevirtual 116, 3) := by decide +kernel
theorem dX1_digest_9 : decode cX1_digest 9 = .ok (.bipush 7, 2) := by decide +kernel
theorem dX1_digest_11 : decode cX1_digest 11 = .ok (.newarray .int, 2) := by decide +kernel
theorem dX1_digest_13 : decode cX1_digest 13 = .ok (.dup, 1) := by decide +kernel
theorem dX1_digest_14 : decode cX1_digest 14 = .ok (.iconst 0, 1) := by decide +kernel
theorem dX1_digest_15 : decode cX1_digest 15 = .ok (.aload_n 0, 1) := by decide +kernel
theorem dX1_digest_16 : decode cX1_digest 16 = .ok (.getfield 46, 3) := by decide +kernel
theorem dX1_digest_19 : decode cX1_digest 19 = .ok (.iastore, 1) := by decide +kernel
theorem dX1_digest_20 : decode cX1_digest 20 = .ok (.dup, 1) := by decide +kernel
theorem dX1_digest_21 : decode cX1_digest 21 = .ok (.iconst 1, 1) := by decide +kernel
theorem dX1_digest_22 : decode cX1_digest 22 = .ok (.aload_n 0, 1) := by decide +kernel
theorem dX1_digest_23 : decode cX1_digest 23 = .ok (.invokevirtual 122, 3) := by decide +kernel
theorem dX1_digest_26 : decode cX1_digest 26 = .ok (.iastore, 1) := by decide +kernel
theorem dX1_digest_27 : decode cX1_digest 27 = .ok (.dup, 1) := by decide +kernel
theorem dX1_digest_28 : decode cX1_digest 28 = .ok (.iconst 2, 1) := by decide +kernel
theorem dX1_digest_29 : decode cX1_digest 29 = .ok (.aload_n 0, 1) := by decide +kernel
theorem dX1_digest_30 : decode cX1_digest 30 = .ok (.invokevirtual 102, 3) := by decide +kernel
theorem dX1_digest_33 : decode cX1_digest 33 = .ok (.iastore, 1) := by decide +kernel
theorem dX1_digest_34 : decode cX1_digest 34 = .ok (.dup, 1) := by decide +kernel
theorem dX1_digest_35 : decode cX1_digest 35 = .ok (.iconst 3, 1) := by decide +kernel
theorem dX1_digest_36 : decode cX1_digest 36 = .ok (.aload_n 0, 1) := by decide +kernel
theorem dX1_digest_37 : decode cX1_digest 37 = .ok (.getfield 57, 3) := by decide +kernel
theorem dX1_digest_40 : decode cX1_digest 40 = .ok (.iastore, 1) := by decide +kernel
theorem dX1_digest_41 : decode cX1_digest 41 = .ok (.dup, 1) := by decide +kernel
theorem dX1_digest_42 : decode cX1_digest 42 = .ok (.iconst 4, 1) := by decide +kernel
theorem dX1_digest_43 : decode cX1_digest 43 = .ok (.aload_n 0, 1) := by decide +kernel
theorem dX1_digest_44 : decode cX1_digest 44 = .ok (.invokevirtual 125, 3) := by decide +kernel
theorem dX1_digest_47 : decode cX1_digest 47 = .ok (.iastore, 1) := by decide +kernel
theorem dX1_digest_48 : decode cX1_digest 48 = .ok (.dup, 1) := by decide +kernel
theorem dX1_digest_49 : decode cX1_digest 49 = .ok (.iconst 5, 1) := by decide +kernel
theorem dX1_digest_50 : decode cX1_digest 50 = .ok (.aload_n 0, 1) := by decide +kernel
theorem dX1_digest_51 : decode cX1_digest 51 = .ok (.invokevirtual 147, 3) := by decide +kernel
theorem dX1_digest_54 : decode cX1_digest 54 = .ok (.iastore, 1) := by decide +kernel
theorem dX1_digest_55 : decode cX1_digest 55 = .ok (.dup, 1) := by decide +kernel
theorem dX1_digest_56 : decode cX1_digest 56 = .ok (.bipush 6, 2) := by decide +kernel
theorem dX1_digest_58 : decode cX1_digest 58 = .ok (.aload_n 0, 1) := by decide +kernel
theorem dX1_digest_59 : decode cX1_digest 59 = .ok (.invokevirtual 153, 3) := by decide +kernel
theorem dX1_digest_62 : decode cX1_digest 62 = .ok (.iastore, 1) := by decide +kernel
theorem dX1_digest_63 : decode cX1_digest 63 = .ok (.astore_n 1, 1) := by decide +kernel
theorem dX1_digest_64 : decode cX1_digest 64 = .ok (.ldc2_w 156, 3) := by decide +kernel
theorem dX1_digest_67 : decode cX1_digest 67 = .ok (.lstore_n 2, 1) := by decide +kernel
theorem dX1_digest_68 : decode cX1_digest 68 = .ok (.aload_n 1, 1) := by decide +kernel
theorem dX1_digest_69 : decode cX1_digest 69 = .ok (.astore 4, 2) := by decide +kernel
theorem dX1_digest_71 : decode cX1_digest 71 = .ok (.aload 4, 2) := by decide +kernel
theorem dX1_digest_73 : decode cX1_digest 73 = .ok (.arraylength, 1) := by decide +kernel
theorem dX1_digest_74 : decode cX1_digest 74 = .ok (.istore 5, 2) := by decide +kernel
theorem dX1_digest_76 : decode cX1_digest 76 = .ok (.iconst 0, 1) := by decide +kernel
theorem dX1_digest_77 : decode cX1_digest 77 = .ok (.istore 6, 2) := by decide +kernel
theorem dX1_digest_79 : decode cX1_digest 79 = .ok (.iload 6, 2) := by decide +kernel
theorem dX1_digest_81 : decode cX1_digest 81 = .ok (.iload 5, 2) := by decide +kernel
theorem dX1_digest_83 : decode cX1_digest 83 = .ok (.if_icmp .ge 26, 3) := by decide +kernel
theorem dX1_digest_86 : decode cX1_digest 86 = .ok (.aload 4, 2) := by decide +kernel
theorem dX1_digest_88 : decode cX1_digest 88 = .ok (.iload 6, 2) := by decide +kernel
theorem dX1_digest_90 : decode cX1_digest 90 = .ok (.iaload, 1) := by decide +kernel
theorem dX1_digest_91 : decode cX1_digest 91 = .ok (.istore 7, 2) := by decide +kernel
theorem dX1_digest_93 : decode cX1_digest 93 = .ok (.lload_n 2, 1) := by decide +kernel
theorem dX1_digest_94 : decode cX1_digest 94 = .ok (.ldc2_w 158, 3) := by decide +kernel
theorem dX1_digest_97 : decode cX1_digest 97 = .ok (.lmul, 1) := by decide +kernel
theorem dX1_digest_98 : decode cX1_digest 98 = .ok (.iload 7, 2) := by decide +kernel
theorem dX1_digest_100 : decode cX1_digest 100 = .ok (.i2l, 1) := by decide +kernel
theorem dX1_digest_101 : decode cX1_digest 101 = .ok (.ladd, 1) := by decide +kernel
theorem dX1_digest_102 : decode cX1_digest 102 = .ok (.lstore_n 2, 1) := by decide +kernel
theorem dX1_digest_103 : decode cX1_digest 103 = .ok (.iinc 6 1, 3) := by decide +kernel
theorem dX1_digest_106 : decode cX1_digest 106 = .ok (.goto (-27), 3) := by decide +kernel
theorem dX1_digest_109 : decode cX1_digest 109 = .ok (.iconst 0, 1) := by decide +kernel
theorem dX1_digest_110 : decode cX1_digest 110 = .ok (.istore 4, 2) := by decide +kernel
theorem dX1_digest_112 : decode cX1_digest 112 = .ok (.iload 4, 2) := by decide +kernel
theorem dX1_digest_114 : decode cX1_digest 114 = .ok (.aload_n 0, 1) := by decide +kernel
theorem dX1_digest_115 : decode cX1_digest 115 = .ok (.getfield 46, 3) := by decide +kernel
theorem dX1_digest_118 : decode cX1_digest 118 = .ok (.if_icmp .ge 193, 3) := by decide +kernel
theorem dX1_digest_121 : decode cX1_digest 121 = .ok (.iconst 5, 1) := by decide +kernel
theorem dX1_digest_122 : decode cX1_digest 122 = .ok (.newarray .int, 2) := by decide +kernel
theorem dX1_digest_124 : decode cX1_digest 124 = .ok (.dup, 1) := by decide +kernel
theorem dX1_digest_125 : decode cX1_digest 125 = .ok (.iconst 0, 1) := by decide +kernel
theorem dX1_digest_126 : decode cX1_digest 126 = .ok (.aload_n 0, 1) := by decide +kernel
theorem dX1_digest_127 : decode cX1_digest 127 = .ok (.getfield 9, 3) := by decide +kernel
theorem dX1_digest_130 : decode cX1_digest 130 = .ok (.iload 4, 2) := by decide +kernel
theorem dX1_digest_132 : decode cX1_digest 132 = .ok (.baload, 1) := by decide +kernel
theorem dX1_digest_133 : decode cX1_digest 133 = .ok (.ifCond .eq 7, 3) := by decide +kernel
theorem dX1_digest_136 : decode cX1_digest 136 = .ok (.iconst 0, 1) := by decide +kernel
theorem dX1_digest_137 : decode cX1_digest 137 = .ok (.goto 4, 3) := by decide +kernel
theorem dX1_digest_140 : decode cX1_digest 140 = .ok (.iconst 1, 1) := by decide +kernel
theorem dX1_digest_141 : decode cX1_digest 141 = .ok (.iastore, 1) := by decide +kernel
theorem dX1_digest_142 : decode cX1_digest 142 = .ok (.dup, 1) := by decide +kernel
theorem dX1_digest_143 : decode cX1_digest 143 = .ok (.iconst 1, 1) := by decide +kernel
theorem dX1_digest_144 : decode cX1_digest 144 = .ok (.aload_n 0, 1) := by decide +kernel
theorem dX1_digest_145 : decode cX1_digest 145 = .ok (.getfield 27, 3) := by decide +kernel
theorem dX1_digest_148 : decode cX1_digest 148 = .ok (.iload 4, 2) := by decide +kernel
theorem dX1_digest_150 : decode cX1_digest 150 = .ok (.iaload, 1) := by decide +kernel
theorem dX1_digest_151 : decode cX1_digest 151 = .ok (.iastore, 1) := by decide +kernel
theorem dX1_digest_152 : decode cX1_digest 152 = .ok (.dup, 1) := by decide +kernel
theorem dX1_digest_153 : decode cX1_digest 153 = .ok (.iconst 2, 1) := by decide +kernel
theorem dX1_digest_154 : decode cX1_digest 154 = .ok (.aload_n 0, 1) := by decide +kernel
theorem dX1_digest_155 : decode cX1_digest 155 = .ok (.getfield 30, 3) := by decide +kernel
theorem dX1_digest_158 : decode cX1_digest 158 = .ok (.iload 4, 2) := by decide +kernel
theorem dX1_digest_160 : decode cX1_digest 160 = .ok (.iaload, 1) := by decide +kernel
theorem dX1_digest_161 : decode cX1_digest 161 = .ok (.iastore, 1) := by decide +kernel
theorem dX1_digest_162 : decode cX1_digest 162 = .ok (.dup, 1) := by decide +kernel
theorem dX1_digest_163 : decode cX1_digest 163 = .ok (.iconst 3, 1) := by decide +kernel
theorem dX1_digest_164 : decode cX1_digest 164 = .ok (.aload_n 0, 1) := by decide +kernel
theorem dX1_digest_165 : decode cX1_digest 165 = .ok (.iload 4, 2) := by decide +kernel
theorem dX1_digest_167 : decode cX1_digest 167 = .ok (.invokevirtual 141, 3) := by decide +kernel
theorem dX1_digest_170 : decode cX1_digest 170 = .ok (.iastore, 1) := by decide +kernel
theorem dX1_digest_171 : decode cX1_digest 171 = .ok (.dup, 1) := by decide +kernel
theorem dX1_digest_172 : decode cX1_digest 172 = .ok (.iconst 4, 1) := by decide +kernel
theorem dX1_digest_173 : decode cX1_digest 173 = .ok (.aload_n 0, 1) := by decide +kernel
theorem dX1_digest_174 : decode cX1_digest 174 = .ok (.iload 4, 2) := by decide +kernel
theorem dX1_digest_176 : decode cX1_digest 176 = .ok (.invokevirtual 144, 3) := by decide +kernel
theorem dX1_digest_179 : decode cX1_digest 179 = .ok (.iastore, 1) := by decide +kernel
theorem dX1_digest_180 : decode cX1_digest 180 = .ok (.astore 5, 2) := by decide +kernel
theorem dX1_digest_182 : decode cX1_digest 182 = .ok (.aload 5, 2) := by decide +kernel
theorem dX1_digest_184 : decode cX1_digest 184 = .ok (.astore 6, 2) := by decide +kernel
theorem dX1_digest_186 : decode cX1_digest 186 = .ok (.aload 6, 2) := by decide +kernel
theorem dX1_digest_188 : decode cX1_digest 188 = .ok (.arraylength, 1) := by decide +kernel
theorem dX1_digest_189 : decode cX1_digest 189 = .ok (.istore 7, 2) := by decide +kernel
theorem dX1_digest_191 : decode cX1_digest 191 = .ok (.iconst 0, 1) := by decide +kernel
theorem dX1_digest_192 : decode cX1_digest 192 = .ok (.istore 8, 2) := by decide +kernel
theorem dX1_digest_194 : decode cX1_digest 194 = .ok (.iload 8, 2) := by decide +kernel
theorem dX1_digest_196 : decode cX1_digest 196 = .ok (.iload 7, 2) := by decide +kernel
theorem dX1_digest_198 : decode cX1_digest 198 = .ok (.if_icmp .ge 26, 3) := by decide +kernel
theorem dX1_digest_201 : decode cX1_digest 201 = .ok (.aload 6, 2) := by decide +kernel
theorem dX1_digest_203 : decode cX1_digest 203 = .ok (.iload 8, 2) := by decide +kernel
theorem dX1_digest_205 : decode cX1_digest 205 = .ok (.iaload, 1) := by decide +kernel
theorem dX1_digest_206 : decode cX1_digest 206 = .ok (.istore 9, 2) := by decide +kernel
theorem dX1_digest_208 : decode cX1_digest 208 = .ok (.lload_n 2, 1) := by decide +kernel
theorem dX1_digest_209 : decode cX1_digest 209 = .ok (.ldc2_w 158, 3) := by decide +kernel
theorem dX1_digest_212 : decode cX1_digest 212 = .ok (.lmul, 1) := by decide +kernel
theorem dX1_digest_213 : decode cX1_digest 213 = .ok (.iload 9, 2) := by decide +kernel
theorem dX1_digest_215 : decode cX1_digest 215 = .ok (.i2l, 1) := by decide +kernel
theorem dX1_digest_216 : decode cX1_digest 216 = .ok (.ladd, 1) := by decide +kernel
theorem dX1_digest_217 : decode cX1_digest 217 = .ok (.lstore_n 2, 1) := by decide +kernel
theorem dX1_digest_218 : decode cX1_digest 218 = .ok (.iinc 8 1, 3) := by decide +kernel
theorem dX1_digest_221 : decode cX1_digest 221 = .ok (.goto (-27), 3) := by decide +kernel
theorem dX1_digest_224 : decode cX1_digest 224 = .ok (.aload_n 0, 1) := by decide +kernel
theorem dX1_digest_225 : decode cX1_digest 225 = .ok (.getfield 9, 3) := by decide +kernel
theorem dX1_digest_228 : decode cX1_digest 228 = .ok (.iload 4, 2) := by decide +kernel
theorem dX1_digest_230 : decode cX1_digest 230 = .ok (.baload, 1) := by decide +kernel
theorem dX1_digest_231 : decode cX1_digest 231 = .ok (.ifCond .eq 59, 3) := by decide +kernel
theorem dX1_digest_234 : decode cX1_digest 234 = .ok (.lload_n 2, 1) := by decide +kernel
theorem dX1_digest_235 : decode cX1_digest 235 = .ok (.ldc2_w 158, 3) := by decide +kernel
theorem dX1_digest_238 : decode cX1_digest 238 = .ok (.lmul, 1) := by decide +kernel
theorem dX1_digest_239 : decode cX1_digest 239 = .ok (.aload_n 0, 1) := by decide +kernel
theorem dX1_digest_240 : decode cX1_digest 240 = .ok (.getfield 13, 3) := by decide +kernel
theorem dX1_digest_243 : decode cX1_digest 243 = .ok (.iload 4, 2) := by decide +kernel
theorem dX1_digest_245 : decode cX1_digest 245 = .ok (.iaload, 1) := by decide +kernel
theorem dX1_digest_246 : decode cX1_digest 246 = .ok (.i2l, 1) := by decide +kernel
theorem dX1_digest_247 : decode cX1_digest 247 = .ok (.ladd, 1) := by decide +kernel
theorem dX1_digest_248 : decode cX1_digest 248 = .ok (.ldc2_w 158, 3) := by decide +kernel
theorem dX1_digest_251 : decode cX1_digest 251 = .ok (.lmul, 1) := by decide +kernel
theorem dX1_digest_252 : decode cX1_digest 252 = .ok (.aload_n 0, 1) := by decide +kernel
theorem dX1_digest_253 : decode cX1_digest 253 = .ok (.getfield 17, 3) := by decide +kernel
theorem dX1_digest_256 : decode cX1_digest 256 = .ok (.iload 4, 2) := by decide +kernel
theorem dX1_digest_258 : decode cX1_digest 258 = .ok (.iaload, 1) := by decide +kernel
theorem dX1_digest_259 : decode cX1_digest 259 = .ok (.i2l, 1) := by decide +kernel
theorem dX1_digest_260 : decode cX1_digest 260 = .ok (.ladd, 1) := by decide +kernel
theorem dX1_digest_261 : decode cX1_digest 261 = .ok (.ldc2_w 158, 3) := by decide +kernel
theorem dX1_digest_264 : decode cX1_digest 264 = .ok (.lmul, 1) := by decide +kernel
theorem dX1_digest_265 : decode cX1_digest 265 = .ok (.aload_n 0, 1) := by decide +kernel
theorem dX1_digest_266 : decode cX1_digest 266 = .ok (.getfield 20, 3) := by decide +kernel
theorem dX1_digest_269 : decode cX1_digest 269 = .ok (.iload 4, 2) := by decide +kernel
theorem dX1_digest_271 : decode cX1_digest 271 = .ok (.iaload, 1) := by decide +kernel
theorem dX1_digest_272 : decode cX1_digest 272 = .ok (.i2l, 1) := by decide +kernel
theorem dX1_digest_273 : decode cX1_digest 273 = .ok (.ladd, 1) := by decide +kernel
theorem dX1_digest_274 : decode cX1_digest 274 = .ok (.ldc2_w 158, 3) := by decide +kernel
theorem dX1_digest_277 : decode cX1_digest 277 = .ok (.lmul, 1) := by decide +kernel
theorem dX1_digest_278 : decode cX1_digest 278 = .ok (.aload_n 0, 1) := by decide +kernel
theorem dX1_digest_279 : decode cX1_digest 279 = .ok (.iload 4, 2) := by decide +kernel
theorem dX1_digest_281 : decode cX1_digest 281 = .ok (.invokevirtual 84, 3) := by decide +kernel
theorem dX1_digest_284 : decode cX1_digest 284 = .ok (.i2l, 1) := by decide +kernel
theorem dX1_digest_285 : decode cX1_digest 285 = .ok (.ladd, 1) := by decide +kernel
theorem dX1_digest_286 : decode cX1_digest 286 = .ok (.lstore_n 2, 1) := by decide +kernel
theorem dX1_digest_287 : decode cX1_digest 287 = .ok (.goto 18, 3) := by decide +kernel
theorem dX1_digest_290 : decode cX1_digest 290 = .ok (.lload_n 2, 1) := by decide +kernel
theorem dX1_digest_291 : decode cX1_digest 291 = .ok (.ldc2_w 158, 3) := by decide +kernel
theorem dX1_digest_294 : decode cX1_digest 294 = .ok (.lmul, 1) := by decide +kernel
theorem dX1_digest_295 : decode cX1_digest 295 = .ok (.aload_n 0, 1) := by decide +kernel
theorem dX1_digest_296 : decode cX1_digest 296 = .ok (.getfield 20, 3) := by decide +kernel
theorem dX1_digest_299 : decode cX1_digest 299 = .ok (.iload 4, 2) := by decide +kernel
theorem dX1_digest_301 : decode cX1_digest 301 = .ok (.iaload, 1) := by decide +kernel
theorem dX1_digest_302 : decode cX1_digest 302 = .ok (.i2l, 1) := by decide +kernel
theorem dX1_digest_303 : decode cX1_digest 303 = .ok (.ladd, 1) := by decide +kernel
theorem dX1_digest_304 : decode cX1_digest 304 = .ok (.lstore_n 2, 1) := by decide +kernel
theorem dX1_digest_305 : decode cX1_digest 305 = .ok (.iinc 4 1, 3) := by decide +kernel
theorem dX1_digest_308 : decode cX1_digest 308 = .ok (.goto (-196), 3) := by decide +kernel
theorem dX1_digest_311 : decode cX1_digest 311 = .ok (.iconst 0, 1) := by decide +kernel
theorem dX1_digest_312 : decode cX1_digest 312 = .ok (.istore 4, 2) := by decide +kernel
theorem dX1_digest_314 : decode cX1_digest 314 = .ok (.iload 4, 2) := by decide +kernel
theorem dX1_digest_316 : decode cX1_digest 316 = .ok (.aload_n 0, 1) := by decide +kernel
theorem dX1_digest_317 : decode cX1_digest 317 = .ok (.getfield 57, 3) := by decide +kernel
theorem dX1_digest_320 : decode cX1_digest 320 = .ok (.if_icmp .ge 37, 3) := by decide +kernel
theorem dX1_digest_323 : decode cX1_digest 323 = .ok (.lload_n 2, 1) := by decide +kernel
theorem dX1_digest_324 : decode cX1_digest 324 = .ok (.ldc2_w 158, 3) := by decide +kernel
theorem dX1_digest_327 : decode cX1_digest 327 = .ok (.lmul, 1) := by decide +kernel
theorem dX1_digest_328 : decode cX1_digest 328 = .ok (.aload_n 0, 1) := by decide +kernel
theorem dX1_digest_329 : decode cX1_digest 329 = .ok (.getfield 33, 3) := by decide +kernel
theorem dX1_digest_332 : decode cX1_digest 332 = .ok (.iload 4, 2) := by decide +kernel
theorem dX1_digest_334 : decode cX1_digest 334 = .ok (.iaload, 1) := by decide +kernel
theorem dX1_digest_335 : decode cX1_digest 335 = .ok (.i2l, 1) := by decide +kernel
theorem dX1_digest_336 : decode cX1_digest 336 = .ok (.ladd, 1) := by decide +kernel
theorem dX1_digest_337 : decode cX1_digest 337 = .ok (.ldc2_w 158, 3) := by decide +kernel
theorem dX1_digest_340 : decode cX1_digest 340 = .ok (.lmul, 1) := by decide +kernel
theorem dX1_digest_341 : decode cX1_digest 341 = .ok (.aload_n 0, 1) := by decide +kernel
theorem dX1_digest_342 : decode cX1_digest 342 = .ok (.getfield 36, 3) := by decide +kernel
theorem dX1_digest_345 : decode cX1_digest 345 = .ok (.iload 4, 2) := by decide +kernel
theorem dX1_digest_347 : decode cX1_digest 347 = .ok (.iaload, 1) := by decide +kernel
theorem dX1_digest_348 : decode cX1_digest 348 = .ok (.i2l, 1) := by decide +kernel
theorem dX1_digest_349 : decode cX1_digest 349 = .ok (.ladd, 1) := by decide +kernel
theorem dX1_digest_350 : decode cX1_digest 350 = .ok (.lstore_n 2, 1) := by decide +kernel
theorem dX1_digest_351 : decode cX1_digest 351 = .ok (.iinc 4 1, 3) := by decide +kernel
theorem dX1_digest_354 : decode cX1_digest 354 = .ok (.goto (-40), 3) := by decide +kernel
theorem dX1_digest_357 : decode cX1_digest 357 = .ok (.lload_n 2, 1) := by decide +kernel
theorem dX1_digest_358 : decode cX1_digest 358 = .ok (.lreturn, 1) := by decide +kernel

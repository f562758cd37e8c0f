section
-- ===== PART A: goes FIRST, ahead of the names: the tables' words, and 'selects' of the private methods out of them =====
/-- a private method of a class that the tables say can be made, by its rows of tables_1 -/
def lw_okq (q : MethodName × Nat) : Prop := (q.1.cls ≠ "java/lang/invoke/MethodHandle" ∧ q.1.cls ≠ "java/lang/invoke/VarHandle") ∧ Cond.instantiable q.1.cls q.2 ∈ tables_1 ∧ Cond.privateMethod q.1 ∈ tables_1 ∧ Cond.instanceMethod q.1 ∈ tables_1
theorem lw_p0 : lw_okq (⟨"ExamGarden", "holdsExam", "(I)Z"⟩, 18) := ⟨⟨by decide +kernel, by decide +kernel⟩, List.mem_of_getElem? (i := 12) (by decide +kernel), List.mem_of_getElem? (i := 106) (by decide +kernel), List.mem_of_getElem? (i := 107) (by decide +kernel)⟩
theorem lw_p1 : lw_okq (⟨"ExamGarden", "smallerRisk", "(I)I"⟩, 18) := ⟨⟨by decide +kernel, by decide +kernel⟩, List.mem_of_getElem? (i := 12) (by decide +kernel), List.mem_of_getElem? (i := 117) (by decide +kernel), List.mem_of_getElem? (i := 118) (by decide +kernel)⟩
theorem lw_p2 : lw_okq (⟨"ExamGarden", "riskOfPath", "(IZ)I"⟩, 18) := ⟨⟨by decide +kernel, by decide +kernel⟩, List.mem_of_getElem? (i := 12) (by decide +kernel), List.mem_of_getElem? (i := 121) (by decide +kernel), List.mem_of_getElem? (i := 122) (by decide +kernel)⟩
theorem lw_p3 : lw_okq (⟨"ExamGarden", "pathFrom", "(IZ)I"⟩, 18) := ⟨⟨by decide +kernel, by decide +kernel⟩, List.mem_of_getElem? (i := 12) (by decide +kernel), List.mem_of_getElem? (i := 125) (by decide +kernel), List.mem_of_getElem? (i := 126) (by decide +kernel)⟩
theorem lw_p4 : lw_okq (⟨"ExamGarden", "hasGrade", "(I)Z"⟩, 18) := ⟨⟨by decide +kernel, by decide +kernel⟩, List.mem_of_getElem? (i := 12) (by decide +kernel), List.mem_of_getElem? (i := 139) (by decide +kernel), List.mem_of_getElem? (i := 140) (by decide +kernel)⟩
theorem lw_p5 : lw_okq (⟨"ExamGarden", "regretOfAll", "(I)I"⟩, 18) := ⟨⟨by decide +kernel, by decide +kernel⟩, List.mem_of_getElem? (i := 12) (by decide +kernel), List.mem_of_getElem? (i := 143) (by decide +kernel), List.mem_of_getElem? (i := 144) (by decide +kernel)⟩
theorem lw_p6 : lw_okq (⟨"ExamGarden", "regretOfStep", "(II)I"⟩, 18) := ⟨⟨by decide +kernel, by decide +kernel⟩, List.mem_of_getElem? (i := 12) (by decide +kernel), List.mem_of_getElem? (i := 147) (by decide +kernel), List.mem_of_getElem? (i := 148) (by decide +kernel)⟩
theorem lw_p7 : lw_okq (⟨"ExamGarden", "passedFork", "(II)I"⟩, 18) := ⟨⟨by decide +kernel, by decide +kernel⟩, List.mem_of_getElem? (i := 12) (by decide +kernel), List.mem_of_getElem? (i := 151) (by decide +kernel), List.mem_of_getElem? (i := 152) (by decide +kernel)⟩
theorem lw_p8 : lw_okq (⟨"ExamGarden", "mixPlace", "(JI)J"⟩, 18) := ⟨⟨by decide +kernel, by decide +kernel⟩, List.mem_of_getElem? (i := 12) (by decide +kernel), List.mem_of_getElem? (i := 175) (by decide +kernel), List.mem_of_getElem? (i := 176) (by decide +kernel)⟩
theorem lw_p9 : lw_okq (⟨"ExamGarden", "requirePlace", "(I)V"⟩, 18) := ⟨⟨by decide +kernel, by decide +kernel⟩, List.mem_of_getElem? (i := 12) (by decide +kernel), List.mem_of_getElem? (i := 183) (by decide +kernel), List.mem_of_getElem? (i := 184) (by decide +kernel)⟩
theorem lw_p10 : lw_okq (⟨"java/lang/Throwable", "fillInStackTrace", "(I)Ljava/lang/Throwable;"⟩, 6) := ⟨⟨by decide +kernel, by decide +kernel⟩, List.mem_of_getElem? (i := 225) (by decide +kernel), List.mem_of_getElem? (i := 223) (by decide +kernel), List.mem_of_getElem? (i := 224) (by decide +kernel)⟩
theorem lw_p11 : lw_okq (⟨"ExamGarden", "plansRight", "(I)Z"⟩, 18) := ⟨⟨by decide +kernel, by decide +kernel⟩, List.mem_of_getElem? (i := 12) (by decide +kernel), List.mem_of_getElem? (i := 274) (by decide +kernel), List.mem_of_getElem? (i := 275) (by decide +kernel)⟩
theorem lw_p12 : lw_okq (⟨"ExamGarden", "requireExam", "(I)V"⟩, 18) := ⟨⟨by decide +kernel, by decide +kernel⟩, List.mem_of_getElem? (i := 12) (by decide +kernel), List.mem_of_getElem? (i := 282) (by decide +kernel), List.mem_of_getElem? (i := 283) (by decide +kernel)⟩
theorem lw_p13 : lw_okq (⟨"ExamGarden", "requireFork", "(I)V"⟩, 18) := ⟨⟨by decide +kernel, by decide +kernel⟩, List.mem_of_getElem? (i := 12) (by decide +kernel), List.mem_of_getElem? (i := 291) (by decide +kernel), List.mem_of_getElem? (i := 292) (by decide +kernel)⟩
theorem lw_p14 : lw_okq (⟨"ExamGarden", "requireStudent", "(I)V"⟩, 18) := ⟨⟨by decide +kernel, by decide +kernel⟩, List.mem_of_getElem? (i := 12) (by decide +kernel), List.mem_of_getElem? (i := 312) (by decide +kernel), List.mem_of_getElem? (i := 313) (by decide +kernel)⟩
theorem lw_p15 : lw_okq (⟨"ExamGarden", "requireRoom", "()V"⟩, 18) := ⟨⟨by decide +kernel, by decide +kernel⟩, List.mem_of_getElem? (i := 12) (by decide +kernel), List.mem_of_getElem? (i := 346) (by decide +kernel), List.mem_of_getElem? (i := 347) (by decide +kernel)⟩
def lw_privs_1 : List (MethodName × Nat) := [(⟨"ExamGarden", "holdsExam", "(I)Z"⟩, 18), (⟨"ExamGarden", "smallerRisk", "(I)I"⟩, 18), (⟨"ExamGarden", "riskOfPath", "(IZ)I"⟩, 18), (⟨"ExamGarden", "pathFrom", "(IZ)I"⟩, 18), (⟨"ExamGarden", "hasGrade", "(I)Z"⟩, 18), (⟨"ExamGarden", "regretOfAll", "(I)I"⟩, 18), (⟨"ExamGarden", "regretOfStep", "(II)I"⟩, 18), (⟨"ExamGarden", "passedFork", "(II)I"⟩, 18), (⟨"ExamGarden", "mixPlace", "(JI)J"⟩, 18), (⟨"ExamGarden", "requirePlace", "(I)V"⟩, 18), (⟨"java/lang/Throwable", "fillInStackTrace", "(I)Ljava/lang/Throwable;"⟩, 6), (⟨"ExamGarden", "plansRight", "(I)Z"⟩, 18), (⟨"ExamGarden", "requireExam", "(I)V"⟩, 18), (⟨"ExamGarden", "requireFork", "(I)V"⟩, 18), (⟨"ExamGarden", "requireStudent", "(I)V"⟩, 18), (⟨"ExamGarden", "requireRoom", "()V"⟩, 18)]
theorem lw_r1 : ∀ q ∈ lw_privs_1, lw_okq q := List.forall_mem_cons.mpr ⟨lw_p0, List.forall_mem_cons.mpr ⟨lw_p1, List.forall_mem_cons.mpr ⟨lw_p2, List.forall_mem_cons.mpr ⟨lw_p3, List.forall_mem_cons.mpr ⟨lw_p4, List.forall_mem_cons.mpr ⟨lw_p5, List.forall_mem_cons.mpr ⟨lw_p6, List.forall_mem_cons.mpr ⟨lw_p7, List.forall_mem_cons.mpr ⟨lw_p8, List.forall_mem_cons.mpr ⟨lw_p9, List.forall_mem_cons.mpr ⟨lw_p10, List.forall_mem_cons.mpr ⟨lw_p11, List.forall_mem_cons.mpr ⟨lw_p12, List.forall_mem_cons.mpr ⟨lw_p13, List.forall_mem_cons.mpr ⟨lw_p14, List.forall_mem_cons.mpr ⟨lw_p15, fun _ h => absurd h List.not_mem_nil⟩⟩⟩⟩⟩⟩⟩⟩⟩⟩⟩⟩⟩⟩⟩⟩
theorem lw_p16 : lw_okq (⟨"ExamGarden", "settleExam", "(I)V"⟩, 18) := ⟨⟨by decide +kernel, by decide +kernel⟩, List.mem_of_getElem? (i := 12) (by decide +kernel), List.mem_of_getElem? (i := 372) (by decide +kernel), List.mem_of_getElem? (i := 373) (by decide +kernel)⟩
theorem lw_p17 : lw_okq (⟨"ExamGarden", "settleFork", "(I)V"⟩, 18) := ⟨⟨by decide +kernel, by decide +kernel⟩, List.mem_of_getElem? (i := 12) (by decide +kernel), List.mem_of_getElem? (i := 388) (by decide +kernel), List.mem_of_getElem? (i := 389) (by decide +kernel)⟩
theorem lw_p18 : lw_okq (⟨"ExamGarden", "settleGreater", "([II)V"⟩, 18) := ⟨⟨by decide +kernel, by decide +kernel⟩, List.mem_of_getElem? (i := 12) (by decide +kernel), List.mem_of_getElem? (i := 392) (by decide +kernel), List.mem_of_getElem? (i := 393) (by decide +kernel)⟩
theorem lw_p19 : lw_okq (⟨"ExamGarden", "settleForksAfter", "(I)V"⟩, 18) := ⟨⟨by decide +kernel, by decide +kernel⟩, List.mem_of_getElem? (i := 12) (by decide +kernel), List.mem_of_getElem? (i := 405) (by decide +kernel), List.mem_of_getElem? (i := 406) (by decide +kernel)⟩
theorem lw_p20 : lw_okq (⟨"ExamGarden", "walk", "(IZ)V"⟩, 18) := ⟨⟨by decide +kernel, by decide +kernel⟩, List.mem_of_getElem? (i := 12) (by decide +kernel), List.mem_of_getElem? (i := 432) (by decide +kernel), List.mem_of_getElem? (i := 433) (by decide +kernel)⟩
theorem lw_p21 : lw_okq (⟨"ExamGarden", "requireGraded", "(I)V"⟩, 18) := ⟨⟨by decide +kernel, by decide +kernel⟩, List.mem_of_getElem? (i := 12) (by decide +kernel), List.mem_of_getElem? (i := 534) (by decide +kernel), List.mem_of_getElem? (i := 535) (by decide +kernel)⟩
theorem lw_p22 : lw_okq (⟨"ExamGardenModel", "no", "(I)I"⟩, 13) := ⟨⟨by decide +kernel, by decide +kernel⟩, List.mem_of_getElem? (i := 546) (by decide +kernel), List.mem_of_getElem? (i := 601) (by decide +kernel), List.mem_of_getElem? (i := 602) (by decide +kernel)⟩
theorem lw_p23 : lw_okq (⟨"ExamGardenModel", "isPlace", "(I)Z"⟩, 13) := ⟨⟨by decide +kernel, by decide +kernel⟩, List.mem_of_getElem? (i := 546) (by decide +kernel), List.mem_of_getElem? (i := 609) (by decide +kernel), List.mem_of_getElem? (i := 610) (by decide +kernel)⟩
theorem lw_p24 : lw_okq (⟨"ExamGardenModel", "isExamAt", "(I)Z"⟩, 13) := ⟨⟨by decide +kernel, by decide +kernel⟩, List.mem_of_getElem? (i := 546) (by decide +kernel), List.mem_of_getElem? (i := 620) (by decide +kernel), List.mem_of_getElem? (i := 621) (by decide +kernel)⟩
theorem lw_p25 : lw_okq (⟨"ExamGardenModel", "gradedNow", "()I"⟩, 13) := ⟨⟨by decide +kernel, by decide +kernel⟩, List.mem_of_getElem? (i := 546) (by decide +kernel), List.mem_of_getElem? (i := 624) (by decide +kernel), List.mem_of_getElem? (i := 625) (by decide +kernel)⟩
theorem lw_p26 : lw_okq (⟨"ExamGardenModel", "isForkAt", "(I)Z"⟩, 13) := ⟨⟨by decide +kernel, by decide +kernel⟩, List.mem_of_getElem? (i := 546) (by decide +kernel), List.mem_of_getElem? (i := 632) (by decide +kernel), List.mem_of_getElem? (i := 633) (by decide +kernel)⟩
theorem lw_p27 : lw_okq (⟨"ExamGardenModel", "isStudent", "(I)Z"⟩, 13) := ⟨⟨by decide +kernel, by decide +kernel⟩, List.mem_of_getElem? (i := 546) (by decide +kernel), List.mem_of_getElem? (i := 644) (by decide +kernel), List.mem_of_getElem? (i := 645) (by decide +kernel)⟩
theorem lw_p28 : lw_okq (⟨"ExamGardenModel", "go", "(II)V"⟩, 13) := ⟨⟨by decide +kernel, by decide +kernel⟩, List.mem_of_getElem? (i := 546) (by decide +kernel), List.mem_of_getElem? (i := 648) (by decide +kernel), List.mem_of_getElem? (i := 649) (by decide +kernel)⟩
theorem lw_p29 : lw_okq (⟨"ExamGardenModel", "table", "()V"⟩, 13) := ⟨⟨by decide +kernel, by decide +kernel⟩, List.mem_of_getElem? (i := 546) (by decide +kernel), List.mem_of_getElem? (i := 660) (by decide +kernel), List.mem_of_getElem? (i := 661) (by decide +kernel)⟩
theorem lw_p30 : lw_okq (⟨"ExamGardenModel", "planned", "(I)I"⟩, 13) := ⟨⟨by decide +kernel, by decide +kernel⟩, List.mem_of_getElem? (i := 546) (by decide +kernel), List.mem_of_getElem? (i := 665) (by decide +kernel), List.mem_of_getElem? (i := 666) (by decide +kernel)⟩
theorem lw_p31 : lw_okq (⟨"ExamGardenModel", "turnsRight", "(I)Z"⟩, 13) := ⟨⟨by decide +kernel, by decide +kernel⟩, List.mem_of_getElem? (i := 546) (by decide +kernel), List.mem_of_getElem? (i := 669) (by decide +kernel), List.mem_of_getElem? (i := 670) (by decide +kernel)⟩
def lw_privs_2 : List (MethodName × Nat) := [(⟨"ExamGarden", "settleExam", "(I)V"⟩, 18), (⟨"ExamGarden", "settleFork", "(I)V"⟩, 18), (⟨"ExamGarden", "settleGreater", "([II)V"⟩, 18), (⟨"ExamGarden", "settleForksAfter", "(I)V"⟩, 18), (⟨"ExamGarden", "walk", "(IZ)V"⟩, 18), (⟨"ExamGarden", "requireGraded", "(I)V"⟩, 18), (⟨"ExamGardenModel", "no", "(I)I"⟩, 13), (⟨"ExamGardenModel", "isPlace", "(I)Z"⟩, 13), (⟨"ExamGardenModel", "isExamAt", "(I)Z"⟩, 13), (⟨"ExamGardenModel", "gradedNow", "()I"⟩, 13), (⟨"ExamGardenModel", "isForkAt", "(I)Z"⟩, 13), (⟨"ExamGardenModel", "isStudent", "(I)Z"⟩, 13), (⟨"ExamGardenModel", "go", "(II)V"⟩, 13), (⟨"ExamGardenModel", "table", "()V"⟩, 13), (⟨"ExamGardenModel", "planned", "(I)I"⟩, 13), (⟨"ExamGardenModel", "turnsRight", "(I)Z"⟩, 13)]
theorem lw_r2 : ∀ q ∈ lw_privs_2, lw_okq q := List.forall_mem_cons.mpr ⟨lw_p16, List.forall_mem_cons.mpr ⟨lw_p17, List.forall_mem_cons.mpr ⟨lw_p18, List.forall_mem_cons.mpr ⟨lw_p19, List.forall_mem_cons.mpr ⟨lw_p20, List.forall_mem_cons.mpr ⟨lw_p21, List.forall_mem_cons.mpr ⟨lw_p22, List.forall_mem_cons.mpr ⟨lw_p23, List.forall_mem_cons.mpr ⟨lw_p24, List.forall_mem_cons.mpr ⟨lw_p25, List.forall_mem_cons.mpr ⟨lw_p26, List.forall_mem_cons.mpr ⟨lw_p27, List.forall_mem_cons.mpr ⟨lw_p28, List.forall_mem_cons.mpr ⟨lw_p29, List.forall_mem_cons.mpr ⟨lw_p30, List.forall_mem_cons.mpr ⟨lw_p31, fun _ h => absurd h List.not_mem_nil⟩⟩⟩⟩⟩⟩⟩⟩⟩⟩⟩⟩⟩⟩⟩⟩
theorem lw_p32 : lw_okq (⟨"ExamGardenModel", "riskOf", "(IZ)I"⟩, 13) := ⟨⟨by decide +kernel, by decide +kernel⟩, List.mem_of_getElem? (i := 546) (by decide +kernel), List.mem_of_getElem? (i := 673) (by decide +kernel), List.mem_of_getElem? (i := 674) (by decide +kernel)⟩
theorem lw_p33 : lw_okq (⟨"ExamGardenModel", "ok", "(I)I"⟩, 13) := ⟨⟨by decide +kernel, by decide +kernel⟩, List.mem_of_getElem? (i := 546) (by decide +kernel), List.mem_of_getElem? (i := 681) (by decide +kernel), List.mem_of_getElem? (i := 682) (by decide +kernel)⟩
theorem lw_p34 : lw_okq (⟨"ExamGardenModel", "examsNow", "()I"⟩, 13) := ⟨⟨by decide +kernel, by decide +kernel⟩, List.mem_of_getElem? (i := 546) (by decide +kernel), List.mem_of_getElem? (i := 689) (by decide +kernel), List.mem_of_getElem? (i := 690) (by decide +kernel)⟩
theorem lw_p35 : lw_okq (⟨"ExamGardenModel", "atEnds", "()I"⟩, 13) := ⟨⟨by decide +kernel, by decide +kernel⟩, List.mem_of_getElem? (i := 546) (by decide +kernel), List.mem_of_getElem? (i := 705) (by decide +kernel), List.mem_of_getElem? (i := 706) (by decide +kernel)⟩
theorem lw_p36 : lw_okq (⟨"ExamGardenModel", "isNot", "(I)Z"⟩, 13) := ⟨⟨by decide +kernel, by decide +kernel⟩, List.mem_of_getElem? (i := 546) (by decide +kernel), List.mem_of_getElem? (i := 713) (by decide +kernel), List.mem_of_getElem? (i := 714) (by decide +kernel)⟩
theorem lw_p37 : lw_okq (⟨"ExamGardenModel", "ofFork", "(I[I)I"⟩, 13) := ⟨⟨by decide +kernel, by decide +kernel⟩, List.mem_of_getElem? (i := 546) (by decide +kernel), List.mem_of_getElem? (i := 729) (by decide +kernel), List.mem_of_getElem? (i := 730) (by decide +kernel)⟩
theorem lw_p38 : lw_okq (⟨"ExamGardenModel", "ofStudent", "(I[I)I"⟩, 13) := ⟨⟨by decide +kernel, by decide +kernel⟩, List.mem_of_getElem? (i := 546) (by decide +kernel), List.mem_of_getElem? (i := 745) (by decide +kernel), List.mem_of_getElem? (i := 746) (by decide +kernel)⟩
theorem lw_p39 : lw_okq (⟨"ExamGardenModel", "ofPlace", "(I[I)I"⟩, 13) := ⟨⟨by decide +kernel, by decide +kernel⟩, List.mem_of_getElem? (i := 546) (by decide +kernel), List.mem_of_getElem? (i := 757) (by decide +kernel), List.mem_of_getElem? (i := 758) (by decide +kernel)⟩
theorem lw_p40 : lw_okq (⟨"ExamGardenModel", "has", "(II)Z"⟩, 13) := ⟨⟨by decide +kernel, by decide +kernel⟩, List.mem_of_getElem? (i := 546) (by decide +kernel), List.mem_of_getElem? (i := 769) (by decide +kernel), List.mem_of_getElem? (i := 770) (by decide +kernel)⟩
theorem lw_p41 : lw_okq (⟨"ExamGardenModel", "examsOf", "(I)I"⟩, 13) := ⟨⟨by decide +kernel, by decide +kernel⟩, List.mem_of_getElem? (i := 546) (by decide +kernel), List.mem_of_getElem? (i := 777) (by decide +kernel), List.mem_of_getElem? (i := 778) (by decide +kernel)⟩
theorem lw_p42 : lw_okq (⟨"ExamGardenModel", "leads", "(I)I"⟩, 13) := ⟨⟨by decide +kernel, by decide +kernel⟩, List.mem_of_getElem? (i := 546) (by decide +kernel), List.mem_of_getElem? (i := 793) (by decide +kernel), List.mem_of_getElem? (i := 794) (by decide +kernel)⟩
theorem lw_p43 : lw_okq (⟨"ExamGardenModel", "riskiest", "()I"⟩, 13) := ⟨⟨by decide +kernel, by decide +kernel⟩, List.mem_of_getElem? (i := 546) (by decide +kernel), List.mem_of_getElem? (i := 801) (by decide +kernel), List.mem_of_getElem? (i := 802) (by decide +kernel)⟩
theorem lw_p44 : lw_okq (⟨"ExamGardenModel", "behind", "(I)I"⟩, 13) := ⟨⟨by decide +kernel, by decide +kernel⟩, List.mem_of_getElem? (i := 546) (by decide +kernel), List.mem_of_getElem? (i := 810) (by decide +kernel), List.mem_of_getElem? (i := 811) (by decide +kernel)⟩
theorem lw_p45 : lw_okq (⟨"ExamGardenModel", "isKnown", "(I)Z"⟩, 13) := ⟨⟨by decide +kernel, by decide +kernel⟩, List.mem_of_getElem? (i := 546) (by decide +kernel), List.mem_of_getElem? (i := 818) (by decide +kernel), List.mem_of_getElem? (i := 819) (by decide +kernel)⟩
theorem lw_p46 : lw_okq (⟨"ExamGardenModel", "regrets", "(I)I"⟩, 13) := ⟨⟨by decide +kernel, by decide +kernel⟩, List.mem_of_getElem? (i := 546) (by decide +kernel), List.mem_of_getElem? (i := 822) (by decide +kernel), List.mem_of_getElem? (i := 823) (by decide +kernel)⟩
theorem lw_p47 : lw_okq (⟨"ExamGardenModel", "regret", "(II)I"⟩, 13) := ⟨⟨by decide +kernel, by decide +kernel⟩, List.mem_of_getElem? (i := 546) (by decide +kernel), List.mem_of_getElem? (i := 826) (by decide +kernel), List.mem_of_getElem? (i := 827) (by decide +kernel)⟩
def lw_privs_3 : List (MethodName × Nat) := [(⟨"ExamGardenModel", "riskOf", "(IZ)I"⟩, 13), (⟨"ExamGardenModel", "ok", "(I)I"⟩, 13), (⟨"ExamGardenModel", "examsNow", "()I"⟩, 13), (⟨"ExamGardenModel", "atEnds", "()I"⟩, 13), (⟨"ExamGardenModel", "isNot", "(I)Z"⟩, 13), (⟨"ExamGardenModel", "ofFork", "(I[I)I"⟩, 13), (⟨"ExamGardenModel", "ofStudent", "(I[I)I"⟩, 13), (⟨"ExamGardenModel", "ofPlace", "(I[I)I"⟩, 13), (⟨"ExamGardenModel", "has", "(II)Z"⟩, 13), (⟨"ExamGardenModel", "examsOf", "(I)I"⟩, 13), (⟨"ExamGardenModel", "leads", "(I)I"⟩, 13), (⟨"ExamGardenModel", "riskiest", "()I"⟩, 13), (⟨"ExamGardenModel", "behind", "(I)I"⟩, 13), (⟨"ExamGardenModel", "isKnown", "(I)Z"⟩, 13), (⟨"ExamGardenModel", "regrets", "(I)I"⟩, 13), (⟨"ExamGardenModel", "regret", "(II)I"⟩, 13)]
theorem lw_r3 : ∀ q ∈ lw_privs_3, lw_okq q := List.forall_mem_cons.mpr ⟨lw_p32, List.forall_mem_cons.mpr ⟨lw_p33, List.forall_mem_cons.mpr ⟨lw_p34, List.forall_mem_cons.mpr ⟨lw_p35, List.forall_mem_cons.mpr ⟨lw_p36, List.forall_mem_cons.mpr ⟨lw_p37, List.forall_mem_cons.mpr ⟨lw_p38, List.forall_mem_cons.mpr ⟨lw_p39, List.forall_mem_cons.mpr ⟨lw_p40, List.forall_mem_cons.mpr ⟨lw_p41, List.forall_mem_cons.mpr ⟨lw_p42, List.forall_mem_cons.mpr ⟨lw_p43, List.forall_mem_cons.mpr ⟨lw_p44, List.forall_mem_cons.mpr ⟨lw_p45, List.forall_mem_cons.mpr ⟨lw_p46, List.forall_mem_cons.mpr ⟨lw_p47, fun _ h => absurd h List.not_mem_nil⟩⟩⟩⟩⟩⟩⟩⟩⟩⟩⟩⟩⟩⟩⟩⟩
theorem lw_p48 : lw_okq (⟨"ExamGardenModel", "worst", "(I)I"⟩, 13) := ⟨⟨by decide +kernel, by decide +kernel⟩, List.mem_of_getElem? (i := 546) (by decide +kernel), List.mem_of_getElem? (i := 834) (by decide +kernel), List.mem_of_getElem? (i := 835) (by decide +kernel)⟩
theorem lw_p49 : lw_okq (⟨"ExamGardenModel", "allRegrets", "()I"⟩, 13) := ⟨⟨by decide +kernel, by decide +kernel⟩, List.mem_of_getElem? (i := 546) (by decide +kernel), List.mem_of_getElem? (i := 842) (by decide +kernel), List.mem_of_getElem? (i := 843) (by decide +kernel)⟩
def lw_privs_4 : List (MethodName × Nat) := [(⟨"ExamGardenModel", "worst", "(I)I"⟩, 13), (⟨"ExamGardenModel", "allRegrets", "()I"⟩, 13)]
theorem lw_r4 : ∀ q ∈ lw_privs_4, lw_okq q := List.forall_mem_cons.mpr ⟨lw_p48, List.forall_mem_cons.mpr ⟨lw_p49, fun _ h => absurd h List.not_mem_nil⟩⟩
def lw_privs : List (MethodName × Nat) := lw_privs_1 ++ (lw_privs_2 ++ (lw_privs_3 ++ (lw_privs_4)))
def lw_tbl : List Cond := k2_sels lw_privs ++ tables_1
theorem lw_privs_ok : ∀ q ∈ lw_privs, lw_okq q := by
  show ∀ q ∈ lw_privs_1 ++ (lw_privs_2 ++ (lw_privs_3 ++ (lw_privs_4))), lw_okq q
  exact List.forall_mem_append.mpr ⟨lw_r1, List.forall_mem_append.mpr ⟨lw_r2, List.forall_mem_append.mpr ⟨lw_r3, lw_r4⟩⟩⟩
/-- the streams that the claim lets the run draw from -/
abbrev lw_cs : List Choice := [Jvm.Choice.named "NaN.bits"]
theorem lw_bits : nanBits ∈ lw_cs := by first | decide | exact List.mem_cons_self | simp [lw_cs, nanBits]
/-! ===== BEGIN words of one list among another's, by their places ===== -/
theorem goodIn_r {big : List Cond} (ws : List Cond) (ps : List Nat) (hp : ws = ps.filterMap (fun i => big[i]?)) (h : ws.all goodWord = true) : GoodIn big ws := by
  intro w hw
  have h1 := List.all_eq_true.mp h w hw
  rw [hp] at hw
  obtain ⟨i, -, hi⟩ := List.mem_filterMap.mp hw
  have hm : w ∈ big := by first | exact List.mem_of_getElem? hi | exact List.getElem?_mem hi
  exact ⟨hm, good_of_word h1⟩
theorem goodIn_app {big a b : List Cond} (ha : GoodIn big a) (hb : GoodIn big b) : GoodIn big (a ++ b) := fun w h => (List.mem_append.mp h).elim (ha w) (hb w)
theorem goodIn_ca {big a b : List Cond} {c : Cond} (ha : GoodIn big (c :: a)) (hb : GoodIn big b) : GoodIn big (c :: (a ++ b)) := fun w h => (List.mem_cons.mp h).elim (fun e => ha w (List.mem_cons.mpr (Or.inl e))) (fun h => (List.mem_append.mp h).elim (fun h => ha w (List.mem_cons.mpr (Or.inr h))) (hb w))
theorem goodIn_sub {big ws : List Cond} (hm : ∀ w ∈ ws, w ∈ big) (h : ws.all goodWord = true) : GoodIn big ws := fun w hw => ⟨hm w hw, good_of_word (List.all_eq_true.mp h w hw)⟩
/-! ===== END ===== -/

/-! ===== BEGIN exceptions that leave a method, and their catching by the caller (launches without stack traces) ===== -/
section VXA
/-! The laws vx_back, vx_callV, vx_callS, vx_callSW, vx_throw0, vx_throwS follow proofs of the library, with one case more: JvmDerived/Free/Laws.lean (Back.of_free), Shelf42/LK1.lean (callV, callS), Shelf/KitTraced.lean (throwNew0V, throwNewS). -/
/-- where a method has thrown q: the class by its name, the cell, what was written, the world -/
def vx_T (XC : String → State → State → Prop) (st : State) (q : Addr) (t : State) (mc ms : Nat) (free : Addr → Prop) : Prop :=
  ∃ (E : String) (ce : Cell) (L : List Loc), XC E st t ∧ t.heap[q]? = some ce ∧ ce.vm = .none ∧ st.vm.findClass E = some ce.cls ∧ st.WarmedH t.vm ∧ st.sameButNew ({ t with vm := st.vm } : State) L mc ms ∧ ∀ z ∈ L, free z.base
def vx_Q (Qc : Array Value → State → Outcome → State → Prop) (XC : String → State → State → Prop) (mc ms : Nat) (free : Addr → Prop) : Array Value → State → Outcome → State → Prop := fun a st o t =>
  (Qc a st o t ∧ ∃ L, FrameEnd st o t L mc ms ∧ ∀ q ∈ L, free q.base) ∨ ∃ q, o = .threw q ∧ vx_T XC st q t mc ms free
/-- a callee that returns or throws -/
def vx_Met (l : Launch) (y : MethodName) (ws : List Cond) (rm : Room) (Pc : Array Value → State → Prop) (Qc : Array Value → State → Outcome → State → Prop) (XC : String → State → State → Prop) (mc ms : Nat) (free : Addr → Prop) : Prop :=
  MetFree l y (headSpec ws rm) Pc (fun _ _ _ _ _ => True) (vx_Q Qc XC mc ms free)
def vx_Post (XC : String → State → State → Prop) (mc ms : Nat) (free : Addr → Prop) : Pt → Array Value → Addr → Pt → Prop := fun A a q B =>
  ∃ (g : JFrame) (mk : MethodId) (t : State) (L : List Loc) (E : String) (ce : Cell), B.U.heap = t.heap ∧ B.U.vm = t.vm ∧ XC E (A.U.calling g mk a) t ∧ t.heap[q]? = some ce ∧ ce.vm = .none ∧ A.U.vm.findClass E = some ce.cls ∧ B.locs = A.locs ++ L ∧ (∀ z ∈ L, free z.base) ∧ B.cells = A.cells + mc ∧ B.slots = A.slots + ms
def vx_Back (l : Launch) (R : Room) (p : Program) (e : Env) (below : List Frame) (s : State) (sargs : Array Value) (y : MethodName) (len W9 : Nat)
    (Pre : Pt → Array Value → Prop) (Post : Pt → Array Value → Option Value → Pt → Prop) (PostX : Pt → Array Value → Addr → Pt → Prop) : Prop :=
  ∀ (m : MethodId) (meth : Method) (c : Code) (A : Pt) (g : JFrame) (ig : Instr) (mk : MethodId) (a : Array Value),
    Stand p l e R s m sargs below meth c A.U A.locs A.cells A.slots → g.method = m → g.locals.size = c.maxLocals → decode c.code g.pc = .ok (ig, len) →
    2 * g.monitorRoom + (g.stack.map fun v => v.category).sum ≤ W9 → A.U.methodNamed? y = some mk → Pre A a →
    (∃ (v : Option Value) (B : Pt), Stand p l e R s m sargs below meth c B.U B.locs B.cells B.slots ∧ Post A a v B ∧
      Steps p.tables e below (doInvoke e (A.U.setTop g) [] mk a).1 (B.U.setTop { g with pc := g.pc + len, stack := v.toList ++ g.stack })) ∨
    (∃ (q : Addr) (B : Pt), Stand p l e R s m sargs below meth c B.U B.locs B.cells B.slots ∧ PostX A a q B ∧
      Steps p.tables e below (doInvoke e (A.U.setTop g) [] mk a).1 ((B.U.setTop g).pushFrame (.throwing q)))
section Payer
variable {l : Launch} {R : Room} {p : Program} {e : Env} {below : List Frame} {s : State} {sargs : Array Value} {y : MethodName} {len W9 : Nat}
theorem vx_back {ws : List Cond} {rm : Room} {Pc : Array Value → State → Prop} {Qc : Array Value → State → Outcome → State → Prop} {XC : String → State → State → Prop} {mc ms : Nat} {free : Addr → Prop} {bytes : ByteArray} {maxL : Nat} {ret : Option FieldType}
    (hM : vx_Met l y ws rm Pc Qc XC mc ms free) (hblind : FrameBlind Pc) (hrc : rm.cells = mc) (hrs : rm.slots = ms)
    (hframes : rm.frames + 1 ≤ R.frames) (hlocals : W9 + (maxL + 11) + rm.locals ≤ R.locals)
    (hws : ∀ w ∈ ws, ∀ a' U, s.WarmedH U.vm → w.before a' U = true) (hcode : Cond.code y bytes maxL ret ∈ ws) (hinit : ∀ a' U, s.WarmedH U.vm → (Cond.initialized y.cls).before a' U = true) :
    vx_Back l R p e below s sargs y len W9 (PreOf R mc ms Pc) (PostOf Qc mc ms free) (vx_Post XC mc ms free) := by
  intro m meth c A g ig mk a X hg hsize hdg hW hn hp
  have h1 : (headSpec ws rm).pre.before a A.U = true := atoms_intro fun w hw => hws w hw _ _ X.warmed
  have h2 : (Cond.code y bytes maxL ret).before a A.U = true := hws _ hcode _ _ X.warmed
  have h3 : (Cond.initialized y.cls).before a A.U = true := hinit _ _ X.warmed
  have h4 : A.cells + (headSpec ws rm).room.cells ≤ R.cells := by rw [show (headSpec ws rm).room.cells = mc from hrc]; exact hp.1
  have h5 : A.slots + (headSpec ws rm).room.slots ≤ R.slots := by rw [show (headSpec ws rm).room.slots = ms from hrs]; exact hp.2.1
  have hPc : Pc a (A.U.calling g mk a) := hblind _ _ _ _ hp.2.2
  obtain ⟨U, Ls, c0, s0⟩ := A
  dsimp only [Pt.U, Pt.locs, Pt.cells, Pt.slots] at h1 h2 h3 h4 h5 X hn hPc ⊢
  obtain ⟨methY, cY, hmY, hcY, -, hlY, -, -, -, -⟩ := Cond.code_spec hn h2
  obtain ⟨kY, hkY, -⟩ := className_of_methodNamed hn
  have hinitY : kY.init = .initialized := Cond.initialized_spec (findClass_of_methodNamed hn) hkY h3
  have h : At U g.method c below := by rw [hg]; exact X.here
  have hlocals9 : W9 + (maxL + 11) + (headSpec ws rm).room.locals ≤ R.locals := hlocals
  have happ : (headSpec ws rm).appliesLoose y e.platform (U.calling g mk a) = true :=
    Spec.appliesLoose_calling (g := g) h hdg hn hkY hinitY
      (X.room_calling (g := g) (R' := (headSpec ws rm).room) hsize hmY hcY hframes (by rw [hlY]; omega) h4 h5) h1
  obtain ⟨mid, hmid⟩ := h.above
  have hfr : (U.setTop g).frames = (.java g :: mid) ++ below := by rw [State.frames_setTop' g h.top, hmid]; rfl
  obtain ⟨o, s₂, hsteps, -, hend, hq⟩ := Steps.callFree hM p X.admits X.cas X.clock (acts := []) hfr happ hPc trivial
  have hq' : vx_Q Qc XC mc ms free a (U.calling g mk a) o s₂ := hq
  rw [State.frames_setTop' g h.top] at hend
  obtain ⟨g₀, hg0⟩ := Option.isSome_iff_exists.mp h.top
  obtain ⟨r, hr⟩ := State.topJava?_eq_some.mp hg0
  have hr' : (({ U with heap := s₂.heap, slotsUsed := s₂.slotsUsed } : State).setVm s₂.vm).frames = .java g₀ :: r := hr
  rcases hq' with ⟨hqc, L, hfe, hL⟩ | ⟨q, rfl, E, ce, L, hx, hce, hcv, hcl, hW₂, hsm, hL⟩
  · obtain ⟨⟨v, rfl⟩, hW₂, e2, q2, q3, q4, q5, q6⟩ := id hfe
    have e3 : s₂ = ({ (U.calling g mk a).setFrames s₂.frames with heap := s₂.heap, slotsUsed := s₂.slotsUsed } : State).setVm s₂.vm := by
      have : s₂ = ({ s₂ with vm := (U.calling g mk a).vm } : State).setVm s₂.vm := rfl
      rw [e2] at this
      exact this
    obtain ⟨c₂, i₂, len₂, hc₂, hd₂, hf₂⟩ := hend
    have hW' : U.WarmedH s₂.vm := hW₂
    have hcc : c₂ = c := by
      have h1 : s₂.code? g.method = U.code? g.method := by
        rw [State.code?_eq, State.code?_eq, hW'.alike.method?]
      exact Option.some.inj (hc₂.symm.trans (h1.trans h.code))
    subst hcc
    have hlen : len₂ = len := by rw [hdg] at hd₂; cases hd₂; rfl
    subst hlen
    have hs₂ : s₂ = (({ U with heap := s₂.heap, slotsUsed := s₂.slotsUsed } : State).setVm s₂.vm).setTop { g with pc := g.pc + len₂, stack := v.toList ++ g.stack } := by
      refine e3.trans ?_
      rw [hf₂, State.calling_eq h.top, State.setFrames_setFrames, State.setTop_of_frames _ hr', hr]
      rfl
    have hsame : U.sameButNew ({ U with heap := s₂.heap, slotsUsed := s₂.slotsUsed } : State) L mc ms := by
      refine ⟨?_, q2, q3, q4, q5, q6⟩
      obtain ⟨t, ht, -⟩ := State.frames_cons hr
      show ({ U with heap := s₂.heap, slotsUsed := s₂.slotsUsed } : State) = { U.setFrames U.frames with heap := s₂.heap, slotsUsed := s₂.slotsUsed }
      rw [State.setFrames_self ht]
    subst hg
    refine Or.inl ⟨v, ⟨(({ U with heap := s₂.heap, slotsUsed := s₂.slotsUsed } : State).setVm s₂.vm), Ls ++ L, c0 + mc, s0 + ms⟩,
      ⟨X.admits, X.cas, X.clock, X.frames, X.room, X.hears, X.method, X.code, (X.here.setHeapUsed s₂.heap s₂.slotsUsed).setVm hW'.alike, X.tail, State.WarmedH.trans X.warmed hW', X.limits, X.bytes, X.same.trans (hsame.setVm s.vm)⟩,
      ⟨g, mk, s₂, L, rfl, rfl, hqc, rfl, hL, rfl, rfl⟩, ?_⟩
    show Steps p.tables e below _ ((({ U with heap := s₂.heap, slotsUsed := s₂.slotsUsed } : State).setVm s₂.vm).setTop { g with pc := g.pc + len₂, stack := v.toList ++ g.stack })
    rw [← hs₂]
    exact hsteps
  · obtain ⟨e2, q2, q3, q4, q5, q6⟩ := id hsm
    have e3 : s₂ = ({ (U.calling g mk a).setFrames s₂.frames with heap := s₂.heap, slotsUsed := s₂.slotsUsed } : State).setVm s₂.vm := by
      have : s₂ = ({ s₂ with vm := (U.calling g mk a).vm } : State).setVm s₂.vm := rfl
      rw [e2] at this
      exact this
    have hf₂ : s₂.frames = .throwing q :: .java g :: U.frames.tail := hend
    have hW' : U.WarmedH s₂.vm := hW₂
    have hs₂ : s₂ = ((({ U with heap := s₂.heap, slotsUsed := s₂.slotsUsed } : State).setVm s₂.vm).setTop g).pushFrame (.throwing q) := by
      refine e3.trans ?_
      rw [hf₂, State.calling_eq h.top, State.setFrames_setFrames, State.pushFrame, State.frames_setTop _ hr', State.setTop_of_frames _ hr', State.setFrames_setFrames, hr]
      rfl
    have hsame : U.sameButNew ({ U with heap := s₂.heap, slotsUsed := s₂.slotsUsed } : State) L mc ms := by
      refine ⟨?_, q2, q3, q4, q5, q6⟩
      obtain ⟨t, ht, -⟩ := State.frames_cons hr
      show ({ U with heap := s₂.heap, slotsUsed := s₂.slotsUsed } : State) = { U.setFrames U.frames with heap := s₂.heap, slotsUsed := s₂.slotsUsed }
      rw [State.setFrames_self ht]
    subst hg
    refine Or.inr ⟨q, ⟨(({ U with heap := s₂.heap, slotsUsed := s₂.slotsUsed } : State).setVm s₂.vm), Ls ++ L, c0 + mc, s0 + ms⟩,
      ⟨X.admits, X.cas, X.clock, X.frames, X.room, X.hears, X.method, X.code, (X.here.setHeapUsed s₂.heap s₂.slotsUsed).setVm hW'.alike, X.tail, State.WarmedH.trans X.warmed hW', X.limits, X.bytes, X.same.trans (hsame.setVm s.vm)⟩,
      ⟨g, mk, s₂, L, E, ce, rfl, rfl, hx, hce, hcv, hcl, rfl, hL, rfl, rfl⟩, ?_⟩
    show Steps p.tables e below _ (((({ U with heap := s₂.heap, slotsUsed := s₂.slotsUsed } : State).setVm s₂.vm).setTop g).pushFrame (.throwing q))
    rw [← hs₂]
    exact hsteps
end Payer
section Calls
variable {p : Program} {l : Launch} {e : Env} {R : Room} {s : State} {m : MethodId} {args : Array Value} {below : List Frame} {meth : Method} {c : Code} {T : State} {locs : List Loc} {cells slots : Nat}
theorem vx_callV (X : Stand p l e R s m args below meth c T locs cells slots) (hexec : p.tables.exec = Jvm.exec) {own C : String} {index : Nat} {y : MethodName} {bytes : ByteArray} {maxL : Nat} {ret : Option FieldType}
    (hown : s.vm.findClass own = some m.cls) (hlink : (Cond.methodLink own index y).before args s = true) (hinst : (Cond.instanceMethod y).before args s = true) (hsel : (Cond.selects C y y).before args s = true)
    (hcode : (Cond.code y bytes maxL ret).before args s = true) (hy : y.cls ≠ "java/lang/invoke/MethodHandle" ∧ y.cls ≠ "java/lang/invoke/VarHandle")
    {W9 : Nat} {Pre : Pt → Array Value → Prop} {Post : Pt → Array Value → Option Value → Pt → Prop} {PostX : Pt → Array Value → Addr → Pt → Prop} (hK : vx_Back l R p e below s args y 3 W9 Pre Post PostX)
    {b : Addr} {cellB : Cell} (hcell : T.heap[b]? = some cellB) (hobj : cellB.vm.isStatics = false) (hcls : s.vm.findClass C = some cellB.cls)
    {g : JFrame} (hg : g.method = m) (hsize : g.locals.size = c.maxLocals) {argsL rest : List Value} (hlen : ∀ sig, parseMethodDescriptor y.desc = some sig → argsL.length = sig.parameters.length)
    (hstack : g.stack = argsL.reverse ++ .ref b :: rest) (hW : 2 * g.monitorRoom + (rest.map fun v => v.category).sum ≤ W9) (hdg : decode c.code g.pc = .ok (.invokevirtual index, 3))
    (hpre : ∀ vm₁, s.WarmedH vm₁ → Pre ⟨T.setVm vm₁, locs, cells, slots⟩ (Value.ref b :: argsL).toArray) :
    (∃ (v : Option Value) (vm₁ : Vm) (B : Pt), s.WarmedH vm₁ ∧ Stand p l e R s m args below meth c B.U B.locs B.cells B.slots ∧ Post ⟨T.setVm vm₁, locs, cells, slots⟩ (Value.ref b :: argsL).toArray v B ∧
      ∀ target, Steps p.tables e below (B.U.setTop { g with pc := g.pc + 3, stack := v.toList ++ rest }) target → Steps p.tables e below (T.setTop g) target) ∨
    (∃ (q : Addr) (vm₁ : Vm) (B : Pt), s.WarmedH vm₁ ∧ Stand p l e R s m args below meth c B.U B.locs B.cells B.slots ∧ PostX ⟨T.setVm vm₁, locs, cells, slots⟩ (Value.ref b :: argsL).toArray q B ∧
      Steps p.tables e below (T.setTop g) ((B.U.setTop { g with stack := rest }).pushFrame (.throwing q))) := by
  obtain ⟨mk, methM, hnamed, hmethM, hstM, habM⟩ := Cond.instanceMethod_spec hinst
  obtain ⟨methM', cM, hmethM', -, -, -, -, -, -, hsigM⟩ := Cond.code_spec hnamed hcode
  cases hmethM.symm.trans hmethM'
  obtain ⟨c2, r2, m2, q1, q2, q3, q4, kP, hkP, hkPi⟩ := Cond.selects_spec hsel
  cases hcls.symm.trans q1
  cases (State.methodFound?_of_named hnamed hy).symm.trans q2
  cases hnamed.symm.trans q3
  have hselP : selectMethod e.platform s.vm cellB.cls mk = .method mk := by rw [Launch.admits_selectMethod X.admits]; exact q4
  obtain ⟨vm₁, X₁, hstep₁⟩ := X.invokevirtual hexec hown hlink hnamed hmethM hstM hkP hkPi hy (a := b) (cell := cellB) hcell
    (fun z h => by rw [h] at hobj; cases hobj) hselP hmethM habM hkP hkPi (g := g) hg (argsL := argsL) (rest := rest) (hlen _ hsigM) hstack hdg
  rcases hK m meth c ⟨T.setVm vm₁, locs, cells, slots⟩ { g with stack := rest } (.invokevirtual index) mk (Value.ref b :: argsL).toArray X₁ hg hsize hdg hW (X₁.named hnamed) (hpre vm₁ X₁.warmed) with ⟨v, B, X', hpost, hsteps⟩ | ⟨q, B, X', hpost, hsteps⟩
  · exact Or.inl ⟨v, vm₁, B, X₁.warmed, X', hpost, fun target h => hstep₁ _ fun acts => by rw [doInvoke_state]; exact hsteps.trans h⟩
  · exact Or.inr ⟨q, vm₁, B, X₁.warmed, X', hpost, hstep₁ _ fun acts => by rw [doInvoke_state]; exact hsteps⟩
theorem vx_callS (X : Stand p l e R s m args below meth c T locs cells slots) (hexec : p.tables.exec = Jvm.exec) {own : String} {index : Nat} {y : MethodName} {bytes : ByteArray} {maxL : Nat} {ret : Option FieldType}
    (hown : s.vm.findClass own = some m.cls) (hlink : (Cond.methodLink own index y).before args s = true) (hstat : (Cond.static y).before args s = true) (hinit : (Cond.initialized y.cls).before args s = true)
    (hcode : (Cond.code y bytes maxL ret).before args s = true) (hy : y.cls ≠ "java/lang/invoke/MethodHandle" ∧ y.cls ≠ "java/lang/invoke/VarHandle")
    {W9 : Nat} {Pre : Pt → Array Value → Prop} {Post : Pt → Array Value → Option Value → Pt → Prop} {PostX : Pt → Array Value → Addr → Pt → Prop} (hK : vx_Back l R p e below s args y 3 W9 Pre Post PostX)
    {g : JFrame} (hg : g.method = m) (hsize : g.locals.size = c.maxLocals) {argsL rest : List Value} (hlen : ∀ sig, parseMethodDescriptor y.desc = some sig → argsL.length = sig.parameters.length)
    (hstack : g.stack = argsL.reverse ++ rest) (hW : 2 * g.monitorRoom + (rest.map fun v => v.category).sum ≤ W9) (hdg : decode c.code g.pc = .ok (.invokestatic index, 3))
    (hpre : ∀ vm₁, s.WarmedH vm₁ → Pre ⟨T.setVm vm₁, locs, cells, slots⟩ argsL.toArray) :
    (∃ (v : Option Value) (vm₁ : Vm) (B : Pt), s.WarmedH vm₁ ∧ Stand p l e R s m args below meth c B.U B.locs B.cells B.slots ∧ Post ⟨T.setVm vm₁, locs, cells, slots⟩ argsL.toArray v B ∧
      ∀ target, Steps p.tables e below (B.U.setTop { g with pc := g.pc + 3, stack := v.toList ++ rest }) target → Steps p.tables e below (T.setTop g) target) ∨
    (∃ (q : Addr) (vm₁ : Vm) (B : Pt), s.WarmedH vm₁ ∧ Stand p l e R s m args below meth c B.U B.locs B.cells B.slots ∧ PostX ⟨T.setVm vm₁, locs, cells, slots⟩ argsL.toArray q B ∧
      Steps p.tables e below (T.setTop g) ((B.U.setTop { g with stack := rest }).pushFrame (.throwing q))) := by
  obtain ⟨mk, hnamed⟩ := Cond.code_named hcode
  obtain ⟨methM, cM, hmethM, -, -, -, -, -, -, hsigM⟩ := Cond.code_spec hnamed hcode
  have hstatic : methM.isStatic = true := Cond.static_spec hnamed hmethM hstat
  obtain ⟨kP, hkP, -⟩ := className_of_methodNamed hnamed
  have hinitP : kP.init = .initialized := Cond.initialized_spec (findClass_of_methodNamed hnamed) hkP hinit
  obtain ⟨vm₁, X₁, hstep₁⟩ := X.invokestatic hexec hown hlink hnamed hmethM hstatic hkP hinitP hy (g := g) hg (argsL := argsL) (rest := rest) (hlen _ hsigM) hstack hdg
  rcases hK m meth c ⟨T.setVm vm₁, locs, cells, slots⟩ { g with stack := rest } (.invokestatic index) mk argsL.toArray X₁ hg hsize hdg hW (X₁.named hnamed) (hpre vm₁ X₁.warmed) with ⟨v, B, X', hpost, hsteps⟩ | ⟨q, B, X', hpost, hsteps⟩
  · exact Or.inl ⟨v, vm₁, B, X₁.warmed, X', hpost, fun target h => hstep₁ _ fun acts => by rw [doInvoke_state]; exact hsteps.trans h⟩
  · exact Or.inr ⟨q, vm₁, B, X₁.warmed, X', hpost, hstep₁ _ fun acts => by rw [doInvoke_state]; exact hsteps⟩
end Calls
theorem vx_cls {s : State} {T : State} {vm₁ : Vm} {E : String} {k : ClassId} (hW : s.WarmedH vm₁) (h : (T.setVm vm₁).vm.findClass E = some k) : s.vm.findClass E = some k := by
  have h1 : vm₁.findClass E = some k := h
  rw [hW.alike.findClass] at h1
  exact h1
/-- the method's frame g, with q thrown over it -/
def vx_W (p : Program) (l : Launch) (e : Env) (R : Room) (s : State) (m : MethodId) (args : Array Value) (below : List Frame) (meth : Method) (c : Code) (H : Heap) (locs : List Loc) (cells slots : Nat) (Q : State → Prop) (g : JFrame) (q : Addr) : Prop :=
  ∀ T : State, T.heap = H → Stand p l e R s m args below meth c T locs cells slots → ∃ t, Steps p.tables e below ((T.setTop g).pushFrame (.throwing q)) t ∧ Q t
def vx_Run (p : Program) (l : Launch) (e : Env) (R : Room) (s : State) (m : MethodId) (args : Array Value) (below : List Frame) (meth : Method) (c : Code) (H : Heap) (locs : List Loc) (cells slots mc ms : Nat) (g : JFrame) (rest : List Value) (Qa : State → Outcome → State → Prop) (XC : String → State → State → Prop) (free : Addr → Prop) : Prop :=
  ∀ T : State, T.heap = H → Stand p l e R s m args below meth c T locs cells slots →
    (∃ (v : Option Value) (st₀ t T' : State) (L : List Loc), st₀.heap = H ∧ Stand p l e R s m args below meth c T' (locs ++ L) (cells + mc) (slots + ms) ∧ (∀ q ∈ L, free q.base) ∧ T'.heap = t.heap ∧ T'.vm = t.vm ∧ Qa st₀ (.returned v) t ∧
      Goes p e below T g T' { g with pc := g.pc + 3, stack := v.toList ++ rest }) ∨
    (∃ (q : Addr) (st₀ t T' : State) (L : List Loc) (E : String) (ce : Cell), st₀.heap = H ∧ Stand p l e R s m args below meth c T' (locs ++ L) (cells + mc) (slots + ms) ∧ (∀ z ∈ L, free z.base) ∧ T'.heap = t.heap ∧ T'.vm = t.vm ∧ XC E st₀ t ∧ t.heap[q]? = some ce ∧ ce.vm = .none ∧ s.vm.findClass E = some ce.cls ∧
      Steps p.tables e below (T.setTop g) ((T'.setTop { g with stack := rest }).pushFrame (.throwing q)))
def vx_X {S : Type} (px : S → Prop) (B : String → S → State → Prop) (A : Nat → Prop) : String → State → State → Prop := fun E st t => ∃ u : S, px u ∧ B E u t ∧ va_F A st t
section Runs
variable {p : Program} {l : Launch} {e : Env} {R : Room} {s : State} {m : MethodId} {args : Array Value} {below : List Frame} {meth : Method} {c : Code} {H : Heap} {locs : List Loc} {cells slots : Nat}
variable {y : MethodName} {bytes cc : ByteArray} {maxL nL mc ms n index : Nat} {ret : Option FieldType} {ws : List Cond} {rm : Room} {Pc : Array Value → State → Prop} {Qc : Array Value → State → Outcome → State → Prop} {XC : String → State → State → Prop} {free : Addr → Prop} {Ts : List Cond} {own C : String} {b : Addr} {As rest : List Value} {g : JFrame}
theorem vx_callBack (cb : CallB R s args own index y bytes maxL ret ws rm mc ms n) (hM : vx_Met l y ws rm Pc Qc XC mc ms free) (hbl : FrameBlind Pc) : vx_Back l R p e below s args y 3 8 (PreOf R mc ms Pc) (PostOf Qc mc ms free) (vx_Post XC mc ms free) := by
  obtain ⟨hrc, hrs, hfr, hlo, hws, hcw, -, hini, -⟩ := cb
  exact vx_back (bytes := bytes) (maxL := maxL) (ret := ret) hM hbl hrc hrs hfr hlo hws hcw (fun a' U hW => word_at hW (Or.inl (by first | rfl | simp [Cond.onTables, Cond.keeps, Cond.steady])) hini)
theorem vx_runV (S : CallFix p m c cc nL s args Ts own) (hM : vx_Met l y ws rm Pc Qc XC mc ms free) (cw : CallW R s args own C index y bytes maxL ret ws rm mc ms n) (hp : PreV s H C b Pc As)
    (hg : g.method = m) (hn : As.length = n) (hsize : g.locals.size = nL) (hstack : g.stack = As.reverse ++ .ref b :: rest) (hW : 2 * g.monitorRoom + (rest.map fun v => v.category).sum ≤ 8) (hdg : decode cc g.pc = .ok (.invokevirtual index, 3)) (hf : cells + mc ≤ R.cells ∧ slots + ms ≤ R.slots) :
    vx_Run p l e R s m args below meth c H locs cells slots mc ms g rest (Qc (Value.ref b :: As).toArray) XC free := by
  have hK : vx_Back l R p e below s args y 3 8 (PreOf R mc ms Pc) (PostOf Qc mc ms free) (vx_Post XC mc ms free) := vx_callBack cw.1 hM hp.1
  obtain ⟨⟨-, -, -, -, -, -, hcode, -, hy, hlen, hl⟩, hin, hse⟩ := cw
  obtain ⟨hx, hb, hml, ho, -⟩ := S
  obtain ⟨-, ⟨cellB, hcB, hoB, hclB⟩, hPc⟩ := hp
  intro T hT X
  rcases vx_callV X hx (C := C) (bytes := bytes) (maxL := maxL) (ret := ret) ho hl hin hse hcode hy hK (by rw [hT]; exact hcB) hoB hclB hg (hsize.trans hml.symm) (argsL := As) (rest := rest) (fun sig h => hn.trans (hlen sig h)) hstack hW (by rw [hb]; exact hdg)
    (fun vm₁ hW₁ => ⟨hf.1, hf.2, hPc (T.setVm vm₁) hT hW₁⟩) with ⟨v, vm₁, ⟨U', l2, c2, s2⟩, hW₁, X', ⟨g', mk, t, L, e1, e2, hq, h1, hL, h2, h3⟩, st⟩ | ⟨q, vm₁, ⟨U', l2, c2, s2⟩, hW₁, X', ⟨g', mk, t, L, E, ce, e1, e2, hq, hce, hcv, hcl, h1, hL, h2, h3⟩, st⟩
  · dsimp only [Pt.U, Pt.locs, Pt.cells, Pt.slots] at X' e1 e2 h1 h2 h3 st
    subst h1; subst h2; subst h3
    exact Or.inl ⟨v, (T.setVm vm₁).calling g' mk (Value.ref b :: As).toArray, t, U', L, hT, X', hL, e1, e2, hq, st⟩
  · dsimp only [Pt.U, Pt.locs, Pt.cells, Pt.slots] at X' e1 e2 h1 h2 h3 st hcl
    subst h1; subst h2; subst h3
    exact Or.inr ⟨q, (T.setVm vm₁).calling g' mk (Value.ref b :: As).toArray, t, U', L, E, ce, hT, X', hL, e1, e2, hq, hce, hcv, vx_cls hW₁ hcl, st⟩
theorem vx_runS (S : CallFix p m c cc nL s args Ts own) (hM : vx_Met l y ws rm Pc Qc XC mc ms free) (cw : CallB R s args own index y bytes maxL ret ws rm mc ms n ∧ (Cond.static y).before args s = true) (hp : PreS s H Pc As)
    (hg : g.method = m) (hn : As.length = n) (hsize : g.locals.size = nL) (hstack : g.stack = As.reverse ++ rest) (hW : 2 * g.monitorRoom + (rest.map fun v => v.category).sum ≤ 8) (hdg : decode cc g.pc = .ok (.invokestatic index, 3)) (hf : cells + mc ≤ R.cells ∧ slots + ms ≤ R.slots) :
    vx_Run p l e R s m args below meth c H locs cells slots mc ms g rest (Qc As.toArray) XC free := by
  have hK : vx_Back l R p e below s args y 3 8 (PreOf R mc ms Pc) (PostOf Qc mc ms free) (vx_Post XC mc ms free) := vx_callBack cw.1 hM hp.1
  obtain ⟨⟨-, -, -, -, -, -, hcode, hini, hy, hlen, hl⟩, hstt⟩ := cw
  obtain ⟨hx, hb, hml, ho, -⟩ := S
  intro T hT X
  rcases vx_callS X hx (bytes := bytes) (maxL := maxL) (ret := ret) ho hl hstt hini hcode hy hK hg (hsize.trans hml.symm) (argsL := As) (rest := rest) (fun sig h => hn.trans (hlen sig h)) hstack hW (by rw [hb]; exact hdg)
    (fun vm₁ hW₁ => ⟨hf.1, hf.2, hp.2 (T.setVm vm₁) hT hW₁⟩) with ⟨v, vm₁, ⟨U', l2, c2, s2⟩, hW₁, X', ⟨g', mk, t, L, e1, e2, hq, h1, hL, h2, h3⟩, st⟩ | ⟨q, vm₁, ⟨U', l2, c2, s2⟩, hW₁, X', ⟨g', mk, t, L, E, ce, e1, e2, hq, hce, hcv, hcl, h1, hL, h2, h3⟩, st⟩
  · dsimp only [Pt.U, Pt.locs, Pt.cells, Pt.slots] at X' e1 e2 h1 h2 h3 st
    subst h1; subst h2; subst h3
    exact Or.inl ⟨v, (T.setVm vm₁).calling g' mk As.toArray, t, U', L, hT, X', hL, e1, e2, hq, st⟩
  · dsimp only [Pt.U, Pt.locs, Pt.cells, Pt.slots] at X' e1 e2 h1 h2 h3 st hcl
    subst h1; subst h2; subst h3
    exact Or.inr ⟨q, (T.setVm vm₁).calling g' mk As.toArray, t, U', L, E, ce, hT, X', hL, e1, e2, hq, hce, hcv, vx_cls hW₁ hcl, st⟩
end Runs
section Rows
variable {p : Program} {l : Launch} {e : Env} {R : Room} {s : State} {m : MethodId} {args : Array Value} {below : List Frame} {meth : Method} {c : Code} {H : Heap} {locs : List Loc} {cells slots : Nat} {Q : State → Prop}
variable {mc ms : Nat} {free : Addr → Prop} {A0 A1 : Nat → Prop} {H0 : Heap} {a : Array Value} {pc : Nat} {ls : Array Slot} {st0 rest : List Value}
theorem vx_keep {st₀ t T' : State} {L : List Loc} (h0 : st₀.heap = H) (e1 : T'.heap = t.heap) (hS : va_S A0 H0 H locs) (hA : ∀ q, q < H.size → A1 q → A0 q) (hf : ∀ q, free q → A0 q) (hL : ∀ q ∈ L, free q.base) (hF : va_F A1 st₀ t) :
    H.size ≤ T'.heap.size ∧ (∀ q : Nat, q < H.size → ¬ A1 q → T'.heap[q]? = H[q]?) ∧ va_S A0 H0 T'.heap (locs ++ L) := by
  obtain ⟨hz, hk⟩ := hF
  rw [h0] at hz hk
  exact ⟨by rw [e1]; exact hz, fun q h1 h2 => by rw [e1]; exact hk q h1 h2,
    ⟨Nat.le_trans hS.1 (by rw [e1]; exact hz), fun q h1 h2 => by rw [e1, hk q (Nat.lt_of_lt_of_le h1 hS.1) (fun z => h2 (hA q (Nat.lt_of_lt_of_le h1 hS.1) z))]; exact hS.2.1 q h1 h2, fun q hq => by
      rcases List.mem_append.mp hq with h | h
      · exact hS.2.2 q h
      · exact hf _ (hL q h)⟩⟩
theorem vx_calli {S SX : Type} {post : Int32 → S → Prop} {px : SX → Prop} {B : S → State → Prop} {BX : String → SX → State → Prop} {AX : Nat → Prop} (hr : vx_Run p l e R s m args below meth c H locs cells slots mc ms (F0 m pc ls st0) rest (va_Qi post B A1 a) (vx_X px BX AX) free) (hS : va_S A0 H0 H locs) (hA : ∀ q, q < H.size → A1 q → A0 q) (hf : ∀ q, free q → A0 q) (hAX : ∀ q, q < H.size → AX q → A0 q)
    (kx : ∀ (E : String) (ce : Cell) (q9 : Addr) (u : SX) (t : State) (H1 : Heap) (locs1 : List Loc), t.heap = H1 → s.vm.Alike t.vm → px u → BX E u t → H.size ≤ H1.size → (∀ q : Nat, q < H.size → ¬ AX q → H1[q]? = H[q]?) → va_S A0 H0 H1 locs1 → H1[q9]? = some ce → ce.vm = .none → s.vm.findClass E = some ce.cls → vx_W p l e R s m args below meth c H1 locs1 (cells + mc) (slots + ms) Q (F0 m pc ls rest) q9)
    (kk : ∀ (r : Int32) (u : S) (t : State) (H1 : Heap) (locs1 : List Loc), t.heap = H1 → s.vm.Alike t.vm → post r u → B u t → H.size ≤ H1.size → (∀ q : Nat, q < H.size → ¬ A1 q → H1[q]? = H[q]?) → va_S A0 H0 H1 locs1 → W p l e R s m args below meth c H1 locs1 (cells + mc) (slots + ms) Q (F0 m (pc + 3) ls (.int r :: rest))) : W p l e R s m args below meth c H locs cells slots Q (F0 m pc ls st0) := by
  intro T hT X
  rcases hr T hT X with ⟨v, st₀, t, T', L, h0, X', hL, e1, e2, ⟨⟨r, u, hv, hp, hb⟩, hF⟩, st⟩ | ⟨q, st₀, t, T', L, E, ce, h0, X', hL, e1, e2, ⟨u, hp, hb, hF⟩, hce, hcv, hcl, st⟩
  · cases hv
    obtain ⟨k1, k2, k3⟩ := vx_keep h0 e1 hS hA hf hL hF
    obtain ⟨t2, a1, b1⟩ := kk r u t T'.heap (locs ++ L) e1.symm (by rw [← e2]; exact X'.warmed.alike) hp hb k1 k2 k3 T' rfl X'
    exact ⟨t2, st t2 a1, b1⟩
  · obtain ⟨k1, k2, k3⟩ := vx_keep h0 e1 hS hAX hf hL hF
    obtain ⟨t2, a1, b1⟩ := kx E ce q u t T'.heap (locs ++ L) e1.symm (by rw [← e2]; exact X'.warmed.alike) hp hb k1 k2 k3 (by rw [e1]; exact hce) hcv hcl T' rfl X'
    exact ⟨t2, st.trans a1, b1⟩
theorem vx_calll {S SX : Type} {post : Int64 → S → Prop} {px : SX → Prop} {B : S → State → Prop} {BX : String → SX → State → Prop} {AX : Nat → Prop} (hr : vx_Run p l e R s m args below meth c H locs cells slots mc ms (F0 m pc ls st0) rest (va_Ql post B A1 a) (vx_X px BX AX) free) (hS : va_S A0 H0 H locs) (hA : ∀ q, q < H.size → A1 q → A0 q) (hf : ∀ q, free q → A0 q) (hAX : ∀ q, q < H.size → AX q → A0 q)
    (kx : ∀ (E : String) (ce : Cell) (q9 : Addr) (u : SX) (t : State) (H1 : Heap) (locs1 : List Loc), t.heap = H1 → s.vm.Alike t.vm → px u → BX E u t → H.size ≤ H1.size → (∀ q : Nat, q < H.size → ¬ AX q → H1[q]? = H[q]?) → va_S A0 H0 H1 locs1 → H1[q9]? = some ce → ce.vm = .none → s.vm.findClass E = some ce.cls → vx_W p l e R s m args below meth c H1 locs1 (cells + mc) (slots + ms) Q (F0 m pc ls rest) q9)
    (kk : ∀ (r : Int64) (u : S) (t : State) (H1 : Heap) (locs1 : List Loc), t.heap = H1 → s.vm.Alike t.vm → post r u → B u t → H.size ≤ H1.size → (∀ q : Nat, q < H.size → ¬ A1 q → H1[q]? = H[q]?) → va_S A0 H0 H1 locs1 → W p l e R s m args below meth c H1 locs1 (cells + mc) (slots + ms) Q (F0 m (pc + 3) ls (.long r :: rest))) : W p l e R s m args below meth c H locs cells slots Q (F0 m pc ls st0) := by
  intro T hT X
  rcases hr T hT X with ⟨v, st₀, t, T', L, h0, X', hL, e1, e2, ⟨⟨r, u, hv, hp, hb⟩, hF⟩, st⟩ | ⟨q, st₀, t, T', L, E, ce, h0, X', hL, e1, e2, ⟨u, hp, hb, hF⟩, hce, hcv, hcl, st⟩
  · cases hv
    obtain ⟨k1, k2, k3⟩ := vx_keep h0 e1 hS hA hf hL hF
    obtain ⟨t2, a1, b1⟩ := kk r u t T'.heap (locs ++ L) e1.symm (by rw [← e2]; exact X'.warmed.alike) hp hb k1 k2 k3 T' rfl X'
    exact ⟨t2, st t2 a1, b1⟩
  · obtain ⟨k1, k2, k3⟩ := vx_keep h0 e1 hS hAX hf hL hF
    obtain ⟨t2, a1, b1⟩ := kx E ce q u t T'.heap (locs ++ L) e1.symm (by rw [← e2]; exact X'.warmed.alike) hp hb k1 k2 k3 (by rw [e1]; exact hce) hcv hcl T' rfl X'
    exact ⟨t2, st.trans a1, b1⟩
theorem vx_callf {S SX : Type} {post : UInt32 → S → Prop} {px : SX → Prop} {B : S → State → Prop} {BX : String → SX → State → Prop} {AX : Nat → Prop} (hr : vx_Run p l e R s m args below meth c H locs cells slots mc ms (F0 m pc ls st0) rest (va_Qf post B A1 a) (vx_X px BX AX) free) (hS : va_S A0 H0 H locs) (hA : ∀ q, q < H.size → A1 q → A0 q) (hf : ∀ q, free q → A0 q) (hAX : ∀ q, q < H.size → AX q → A0 q)
    (kx : ∀ (E : String) (ce : Cell) (q9 : Addr) (u : SX) (t : State) (H1 : Heap) (locs1 : List Loc), t.heap = H1 → s.vm.Alike t.vm → px u → BX E u t → H.size ≤ H1.size → (∀ q : Nat, q < H.size → ¬ AX q → H1[q]? = H[q]?) → va_S A0 H0 H1 locs1 → H1[q9]? = some ce → ce.vm = .none → s.vm.findClass E = some ce.cls → vx_W p l e R s m args below meth c H1 locs1 (cells + mc) (slots + ms) Q (F0 m pc ls rest) q9)
    (kk : ∀ (r : UInt32) (u : S) (t : State) (H1 : Heap) (locs1 : List Loc), t.heap = H1 → s.vm.Alike t.vm → post r u → B u t → H.size ≤ H1.size → (∀ q : Nat, q < H.size → ¬ A1 q → H1[q]? = H[q]?) → va_S A0 H0 H1 locs1 → W p l e R s m args below meth c H1 locs1 (cells + mc) (slots + ms) Q (F0 m (pc + 3) ls (.float r :: rest))) : W p l e R s m args below meth c H locs cells slots Q (F0 m pc ls st0) := by
  intro T hT X
  rcases hr T hT X with ⟨v, st₀, t, T', L, h0, X', hL, e1, e2, ⟨⟨r, u, hv, hp, hb⟩, hF⟩, st⟩ | ⟨q, st₀, t, T', L, E, ce, h0, X', hL, e1, e2, ⟨u, hp, hb, hF⟩, hce, hcv, hcl, st⟩
  · cases hv
    obtain ⟨k1, k2, k3⟩ := vx_keep h0 e1 hS hA hf hL hF
    obtain ⟨t2, a1, b1⟩ := kk r u t T'.heap (locs ++ L) e1.symm (by rw [← e2]; exact X'.warmed.alike) hp hb k1 k2 k3 T' rfl X'
    exact ⟨t2, st t2 a1, b1⟩
  · obtain ⟨k1, k2, k3⟩ := vx_keep h0 e1 hS hAX hf hL hF
    obtain ⟨t2, a1, b1⟩ := kx E ce q u t T'.heap (locs ++ L) e1.symm (by rw [← e2]; exact X'.warmed.alike) hp hb k1 k2 k3 (by rw [e1]; exact hce) hcv hcl T' rfl X'
    exact ⟨t2, st.trans a1, b1⟩
theorem vx_calld {S SX : Type} {post : UInt64 → S → Prop} {px : SX → Prop} {B : S → State → Prop} {BX : String → SX → State → Prop} {AX : Nat → Prop} (hr : vx_Run p l e R s m args below meth c H locs cells slots mc ms (F0 m pc ls st0) rest (va_Qd post B A1 a) (vx_X px BX AX) free) (hS : va_S A0 H0 H locs) (hA : ∀ q, q < H.size → A1 q → A0 q) (hf : ∀ q, free q → A0 q) (hAX : ∀ q, q < H.size → AX q → A0 q)
    (kx : ∀ (E : String) (ce : Cell) (q9 : Addr) (u : SX) (t : State) (H1 : Heap) (locs1 : List Loc), t.heap = H1 → s.vm.Alike t.vm → px u → BX E u t → H.size ≤ H1.size → (∀ q : Nat, q < H.size → ¬ AX q → H1[q]? = H[q]?) → va_S A0 H0 H1 locs1 → H1[q9]? = some ce → ce.vm = .none → s.vm.findClass E = some ce.cls → vx_W p l e R s m args below meth c H1 locs1 (cells + mc) (slots + ms) Q (F0 m pc ls rest) q9)
    (kk : ∀ (r : UInt64) (u : S) (t : State) (H1 : Heap) (locs1 : List Loc), t.heap = H1 → s.vm.Alike t.vm → post r u → B u t → H.size ≤ H1.size → (∀ q : Nat, q < H.size → ¬ A1 q → H1[q]? = H[q]?) → va_S A0 H0 H1 locs1 → W p l e R s m args below meth c H1 locs1 (cells + mc) (slots + ms) Q (F0 m (pc + 3) ls (.double r :: rest))) : W p l e R s m args below meth c H locs cells slots Q (F0 m pc ls st0) := by
  intro T hT X
  rcases hr T hT X with ⟨v, st₀, t, T', L, h0, X', hL, e1, e2, ⟨⟨r, u, hv, hp, hb⟩, hF⟩, st⟩ | ⟨q, st₀, t, T', L, E, ce, h0, X', hL, e1, e2, ⟨u, hp, hb, hF⟩, hce, hcv, hcl, st⟩
  · cases hv
    obtain ⟨k1, k2, k3⟩ := vx_keep h0 e1 hS hA hf hL hF
    obtain ⟨t2, a1, b1⟩ := kk r u t T'.heap (locs ++ L) e1.symm (by rw [← e2]; exact X'.warmed.alike) hp hb k1 k2 k3 T' rfl X'
    exact ⟨t2, st t2 a1, b1⟩
  · obtain ⟨k1, k2, k3⟩ := vx_keep h0 e1 hS hAX hf hL hF
    obtain ⟨t2, a1, b1⟩ := kx E ce q u t T'.heap (locs ++ L) e1.symm (by rw [← e2]; exact X'.warmed.alike) hp hb k1 k2 k3 (by rw [e1]; exact hce) hcv hcl T' rfl X'
    exact ⟨t2, st.trans a1, b1⟩
theorem vx_callv {S SX : Type} {post : S → Prop} {px : SX → Prop} {B : S → State → Prop} {BX : String → SX → State → Prop} {AX : Nat → Prop} (hr : vx_Run p l e R s m args below meth c H locs cells slots mc ms (F0 m pc ls st0) rest (va_Qv post B A1 a) (vx_X px BX AX) free) (hS : va_S A0 H0 H locs) (hA : ∀ q, q < H.size → A1 q → A0 q) (hf : ∀ q, free q → A0 q) (hAX : ∀ q, q < H.size → AX q → A0 q)
    (kx : ∀ (E : String) (ce : Cell) (q9 : Addr) (u : SX) (t : State) (H1 : Heap) (locs1 : List Loc), t.heap = H1 → s.vm.Alike t.vm → px u → BX E u t → H.size ≤ H1.size → (∀ q : Nat, q < H.size → ¬ AX q → H1[q]? = H[q]?) → va_S A0 H0 H1 locs1 → H1[q9]? = some ce → ce.vm = .none → s.vm.findClass E = some ce.cls → vx_W p l e R s m args below meth c H1 locs1 (cells + mc) (slots + ms) Q (F0 m pc ls rest) q9)
    (kk : ∀ (u : S) (t : State) (H1 : Heap) (locs1 : List Loc), t.heap = H1 → s.vm.Alike t.vm → post u → B u t → H.size ≤ H1.size → (∀ q : Nat, q < H.size → ¬ A1 q → H1[q]? = H[q]?) → va_S A0 H0 H1 locs1 → W p l e R s m args below meth c H1 locs1 (cells + mc) (slots + ms) Q (F0 m (pc + 3) ls (rest))) : W p l e R s m args below meth c H locs cells slots Q (F0 m pc ls st0) := by
  intro T hT X
  rcases hr T hT X with ⟨v, st₀, t, T', L, h0, X', hL, e1, e2, ⟨⟨u, hv, hp, hb⟩, hF⟩, st⟩ | ⟨q, st₀, t, T', L, E, ce, h0, X', hL, e1, e2, ⟨u, hp, hb, hF⟩, hce, hcv, hcl, st⟩
  · cases hv
    obtain ⟨k1, k2, k3⟩ := vx_keep h0 e1 hS hA hf hL hF
    obtain ⟨t2, a1, b1⟩ := kk u t T'.heap (locs ++ L) e1.symm (by rw [← e2]; exact X'.warmed.alike) hp hb k1 k2 k3 T' rfl X'
    exact ⟨t2, st t2 a1, b1⟩
  · obtain ⟨k1, k2, k3⟩ := vx_keep h0 e1 hS hAX hf hL hF
    obtain ⟨t2, a1, b1⟩ := kx E ce q u t T'.heap (locs ++ L) e1.symm (by rw [← e2]; exact X'.warmed.alike) hp hb k1 k2 k3 (by rw [e1]; exact hce) hcv hcl T' rfl X'
    exact ⟨t2, st.trans a1, b1⟩
/-- caught by the row x of this method's table; the rows ahead don't take it -/
theorem vx_catch {own name : String} {E : String} {ce : Cell} {q : Addr} (hown : s.vm.findClass own = some m.cls) (pre : List ExceptionTableEntry) (x : ExceptionTableEntry) (suf : List ExceptionTableEntry) (hsplit : c.exceptionTable.toList = pre ++ x :: suf)
    (hpass : ∀ z ∈ pre, covers z pc = false ∨ (z.catchType ≠ 0 ∧ ∃ nm : String, (Cond.classLink own z.catchType nm).before args s = true ∧ va_Nc E nm s)) (hx : covers x pc = true) (h0 : x.catchType ≠ 0)
    (hlink : (Cond.classLink own x.catchType name).before args s = true) (hcast : (Cond.castable E name).before args s = true) (hcell : H[q]? = some ce) (hv : ce.vm = .none) (hcl : s.vm.findClass E = some ce.cls)
    (kk : W p l e R s m args below meth c H locs cells slots Q (F0 m x.handlerPc ls [.ref q])) : vx_W p l e R s m args below meth c H locs cells slots Q (F0 m pc ls rest) q := by
  intro T hT X
  have hpl : e.platform.magicAccessors = ({} : Platform).magicAccessors := by rw [X.admits.platform]
  obtain ⟨c3, c4, hc3, hc4, hasg⟩ := Cond.castable_spec hcast
  cases Option.some.inj (hc3.symm.trans hcl)
  obtain ⟨c5, hc5, hcl5⟩ := Cond.classLink_spec hown hlink e.platform hpl
  cases Option.some.inj (hc4.symm.trans hc5)
  obtain ⟨vm', X', st⟩ := X.thenCaughtThrough q (g := F0 m pc ls rest) rfl (Steps.refl _) (by rw [hT]; exact hcell) (by rw [hv]; rfl) (by obtain ⟨k9, h9, -⟩ := Vm.findClass_spec hcl; exact ⟨k9, h9⟩) pre x suf hsplit
    (fun z hz => by
      rcases hpass z hz with h | ⟨hz0, nm, hl1, hn1⟩
      · exact Or.inl h
      · obtain ⟨c6, hc6, hcl6⟩ := Cond.classLink_spec hown hl1 e.platform hpl
        obtain ⟨a8, b8, h1, h2, h3⟩ := hn1
        cases Option.some.inj (h1.symm.trans hcl)
        cases Option.some.inj (h2.symm.trans hc6)
        exact Or.inr ⟨hz0, _, hcl6, h3⟩) hx (Or.inr ⟨h0, c4, hcl5, hasg⟩)
  obtain ⟨t, a1, b1⟩ := kk (T.setVm vm') hT X'
  exact ⟨t, st.trans a1, b1⟩
end Rows
section Ends
variable {p : Program} {l : Launch} {e : Env} {R : Room} {s : State} {m : MethodId} {args : Array Value} {below : List Frame} {meth : Method} {c : Code} {H : Heap} {locs : List Loc} {cells slots : Nat} {Q : State → Prop}
variable {mc ms : Nat} {free : Addr → Prop} {A0 A1 : Nat → Prop} {H0 : Heap} {a : Array Value} {ls : Array Slot} {st0 rest : List Value}
variable {Qc : Array Value → State → Outcome → State → Prop} {XC : String → State → State → Prop}
/-- what a body that may throw owes at its end -/
def vx_MQ (below : List Frame) (Qc : Array Value → State → Outcome → State → Prop) (XC : String → State → State → Prop) (a : Array Value) (s : State) (mc ms : Nat) (free : Addr → Prop) : State → Prop := fun t =>
  ∃ o, t.status = .running ∧ Ended t below o ∧ vx_Q Qc XC mc ms free a s o t
theorem vx_ret {g : JFrame} {mc ms : Nat} (k : W p l e R s m args below meth c H locs cells slots (MQ below Qc args s mc ms free) g) : W p l e R s m args below meth c H locs cells slots (vx_MQ below Qc XC args s mc ms free) g := by
  intro T hT X
  obtain ⟨t, a1, o, b1, b2, b3, b4⟩ := k T hT X
  exact ⟨t, a1, o, b1, b2, Or.inl ⟨b3, b4⟩⟩
/-- not caught here: it goes on to the caller -/
theorem vx_widen {g : JFrame} {q : Addr} {k n : Nat} (h1 : cells ≤ k) (h2 : slots ≤ n) (kk : vx_W p l e R s m args below meth c H locs k n Q g q) : vx_W p l e R s m args below meth c H locs cells slots Q g q := fun T hT X => kk T hT (stand_widen X h1 h2)
theorem vx_out {pc : Nat} {E : String} {ce : Cell} {q : Addr} {mc ms : Nat} (hout : ∀ x ∈ c.exceptionTable.toList, covers x pc = false) (hlocks : meth.locks = false) (hcell : H[q]? = some ce) (hv : ce.vm = .none) (hcl : s.vm.findClass E = some ce.cls)
    (hx : ∀ t : State, t.heap = H → s.vm.Alike t.vm → XC E s t) (hf : ∀ z ∈ locs, free z.base) (hc : cells ≤ mc) (hs : slots ≤ ms) :
    vx_W p l e R s m args below meth c H locs cells slots (vx_MQ below Qc XC args s mc ms free) (F0 m pc ls rest) q := by
  intro T hT X
  obtain ⟨st1, hrun, hend, hW, hsm⟩ := X.leaveThrown q (g := F0 m pc ls rest) rfl rfl rfl hout hlocks
  have hcell9 : (T.setFrames (.throwing q :: below)).heap[q]? = some ce := by
    show T.heap[q]? = some ce
    rw [hT]; exact hcell
  exact ⟨_, st1, .threw q, hrun, hend, Or.inr ⟨q, rfl, E, ce, locs, hx _ hT hW.alike, hcell9, hv, hcl, hW, hsm.mono hc hs, hf⟩⟩
theorem vx_frame {U : State} {k n : Nat} (h : s.sameButNew ({ U with vm := s.vm } : State) locs k n) : s.heap.size ≤ U.heap.size ∧ ∀ q : Nat, q < s.heap.size → (∀ z ∈ locs, z.base ≠ q) → U.heap[q]? = s.heap[q]? := by
  obtain ⟨-, h2, -, -, -, h6⟩ := h
  refine ⟨h2, fun q hq hz => ?_⟩
  obtain ⟨c9, e1, e2, e3, e4⟩ := h6 q _ (Array.getElem?_eq_getElem hq)
  have hs : c9.slots = (s.heap[q]).slots := Array.ext_getElem? fun i => e4 i fun hm => hz _ hm rfl
  have h9 : c9 = s.heap[q] := by
    rw [hs] at e2
    exact e2
  have e5 : U.heap[q]? = some c9 := e1
  rw [e5, h9, Array.getElem?_eq_getElem hq]
/-- the words of a throw but the four that speak of the heap -/
def vx_no (w : Cond) : Bool := decide (w ≠ .isRef (.static Bundle.tN "UNASSIGNED_STACK" Bundle.steD)) && decide (w ≠ .isRef (.static Bundle.tN "SUPPRESSED_SENTINEL" Bundle.listD)) && decide (w ≠ .laysStatic Bundle.tN "UNASSIGNED_STACK" Bundle.steD) && decide (w ≠ .laysStatic Bundle.tN "SUPPRESSED_SENTINEL" Bundle.listD)
def vx_at0 (own : String) (ic : Nat) (X : String) (names : List String) : List Cond := (Bundle.ownAtoms0 own ic X names).filter vx_no
def vx_atS (own : String) (ic : Nat) (X : String) (names : List String) : List Cond := (Bundle.ownAtoms own ic X names).filter vx_no
/-- a word that the tables alone decide, or a good one -/
def vx_ot (w : Cond) : Bool := w.onTables || goodWord w
theorem vx_ot_at {args a' : Array Value} {s U : State} {w : Cond} (hW : s.WarmedH U.vm) (hvm : s.vm = U.vm) (hg : vx_ot w = true) (h : w.before args s = true) : w.before a' U = true := by
  simp only [vx_ot, Bool.or_eq_true] at hg
  rcases hg with hg | hg
  · exact va_tabs hg hvm h
  · exact word_at hW (good_of_word hg) h
/-- a list's words: the good ones out of the method's own list, the others by premises of their own -/
theorem vx_hat {args : Array Value} {s : State} {L B : List Cond} (h1 : ∀ w ∈ L.filter goodWord, w.before args s = true) (h2 : ∀ w ∈ L.filter (fun w => !goodWord w), w ∈ B) (h3 : ∀ w ∈ B, w.before args s = true) : ∀ w ∈ L, w.before args s = true := by
  intro w hw
  by_cases g : goodWord w = true
  · exact h1 w (List.mem_filter.mpr ⟨hw, g⟩)
  · refine h3 w (h2 w (List.mem_filter.mpr ⟨hw, ?_⟩))
    show (!goodWord w) = true
    cases hgw : goodWord w
    · rfl
    · exact absurd hgw g
theorem vx_c {args : Array Value} {s : State} {w : Cond} {B : List Cond} (h : w.before args s = true) (t : ∀ w ∈ B, w.before args s = true) : ∀ w' ∈ w :: B, w'.before args s = true := fun w' h' => (List.mem_cons.mp h').elim (fun e => by rw [e]; exact h) (t w')
theorem vx_n {args : Array Value} {s : State} : ∀ w ∈ ([] : List Cond), w.before args s = true := fun _ h => nomatch h
theorem vx_own {args : Array Value} {s : State} {L : List Cond} (h1 : ∀ w ∈ L.filter vx_no, w.before args s = true)
    (hU : (Cond.isRef (.static Bundle.tN "UNASSIGNED_STACK" Bundle.steD)).before args s = true) (hN : (Cond.isRef (.static Bundle.tN "SUPPRESSED_SENTINEL" Bundle.listD)).before args s = true)
    (lU : (Cond.laysStatic Bundle.tN "UNASSIGNED_STACK" Bundle.steD).before args s = true) (lN : (Cond.laysStatic Bundle.tN "SUPPRESSED_SENTINEL" Bundle.listD).before args s = true) : ∀ w ∈ L, w.before args s = true := by
  intro w hw
  by_cases e1 : w = .isRef (.static Bundle.tN "UNASSIGNED_STACK" Bundle.steD)
  · rw [e1]; exact hU
  · by_cases e2 : w = .isRef (.static Bundle.tN "SUPPRESSED_SENTINEL" Bundle.listD)
    · rw [e2]; exact hN
    · by_cases e3 : w = .laysStatic Bundle.tN "UNASSIGNED_STACK" Bundle.steD
      · rw [e3]; exact lU
      · by_cases e4 : w = .laysStatic Bundle.tN "SUPPRESSED_SENTINEL" Bundle.listD
        · rw [e4]; exact lN
        · exact h1 w (List.mem_filter.mpr ⟨hw, by unfold vx_no; rw [decide_eq_true e1, decide_eq_true e2, decide_eq_true e3, decide_eq_true e4]; rfl⟩)
/-- where a static field lies, its class's statics cell in H -/
def vx_L (C n d : String) (A : Nat → Prop) (U : State) (H : Heap) : Prop := ∃ (c : ClassId) (k : Class) (i : Nat) (f : Field) (a : Nat) (cell : Cell), U.vm.findClass C = some c ∧ U.fieldFound? C n d = some (c, k, i, f) ∧ f.isStatic = true ∧ k.statics = some a ∧ H[a]? = some cell ∧ cell.vm.isStatics = true ∧ cell.cls = c ∧ f.slot < cell.slots.size ∧ k.staticTypes[f.slot]? = some f.type ∧ ¬ A a
theorem vx_L.moved {C n d : String} {A : Nat → Prop} {u U : State} {H : Heap} (hvm : u.vm.Alike U.vm) (h : vx_L C n d A u H) : vx_L C n d A U H := by
  obtain ⟨c, k, i, f, a, cell, h1, h2, h3, h4, h5, h6, h7, h8, h9, h10⟩ := h
  obtain ⟨k', hi', he⟩ := State.fieldFound?_setVm hvm h2
  exact ⟨c, k', i, f, a, cell, by rw [hvm.findClass]; exact h1, hi', h3, by rw [he]; exact h4, h5, h6, h7, h8, by rw [he]; exact h9, h10⟩
theorem vx_L.kept {C n d : String} {A : Nat → Prop} {U : State} {H H1 : Heap} (h : vx_L C n d A U H) (hq : ∀ a : Nat, a < H.size → ¬ A a → H1[a]? = H[a]?) : vx_L C n d A U H1 := by
  obtain ⟨c, k, i, f, a, cell, h1, h2, h3, h4, h5, h6, h7, h8, h9, h10⟩ := h
  exact ⟨c, k, i, f, a, cell, h1, h2, h3, h4, by rw [hq a (Array.getElem?_eq_some_iff.mp h5).1 h10]; exact h5, h6, h7, h8, h9, h10⟩
theorem vx_L.narrow {C n d : String} {A B : Nat → Prop} {U : State} {H : Heap} (h : vx_L C n d A U H) (hAB : ∀ q, B q → A q) : vx_L C n d B U H := by
  obtain ⟨c, k, i, f, a, cell, h1, h2, h3, h4, h5, h6, h7, h8, h9, h10⟩ := h
  exact ⟨c, k, i, f, a, cell, h1, h2, h3, h4, h5, h6, h7, h8, h9, fun z => h10 (hAB _ z)⟩
theorem vx_L.word {C n d : String} {A : Nat → Prop} {s : State} {args : Array Value} (h : vx_L C n d A s s.heap) : (Cond.laysStatic C n d).before args s = true := by
  obtain ⟨c, k, i, f, a, cell, h1, h2, h3, h4, h5, h6, h7, h8, h9, -⟩ := h
  show (Cond.laysStatic C n d).holds args s none s [] = true
  exact Cond.laysStatic_of h1 h2 h3 h4 h5 h6 h7 h8 h9
/-- .. and what it holds: null or some reference -/
def vx_Zq (C n d : String) (A : Nat → Prop) (U : State) (H : Heap) : Prop := va_Zq C n d A U H ∧ vx_L C n d A U H
theorem vx_Zq.moved {C n d : String} {A : Nat → Prop} {u U : State} {H : Heap} (hvm : u.vm.Alike U.vm) (h : vx_Zq C n d A u H) : vx_Zq C n d A U H := ⟨va_Zq.moved hvm h.1, vx_L.moved hvm h.2⟩
theorem vx_Zq.kept {C n d : String} {A : Nat → Prop} {U : State} {H H1 : Heap} (h : vx_Zq C n d A U H) (hq : ∀ a : Nat, a < H.size → ¬ A a → H1[a]? = H[a]?) : vx_Zq C n d A U H1 := ⟨va_Zq.kept h.1 hq, vx_L.kept h.2 hq⟩
theorem vx_Zq.narrow {C n d : String} {A B : Nat → Prop} {U : State} {H : Heap} (h : vx_Zq C n d A U H) (hAB : ∀ q, B q → A q) : vx_Zq C n d B U H := ⟨va_Zq.narrow h.1 hAB, vx_L.narrow h.2 hAB⟩
theorem vx_Zqof {args : Array Value} {s : State} {C n d : String} {A : Nat → Prop} (hl : (Cond.laysStatic C n d).before args s = true) (hini : (Cond.initialized C).before args s = true) (h : (Cond.isRef (.static C n d)).before args s = true) (hA : ∀ a : Nat, a < s.heap.size → ¬ A a) : vx_Zq C n d A s s.heap := by
  refine ⟨va_Zqof hl hini h hA, ?_⟩
  obtain ⟨c, k, i, f, a, cell, h1, h2, h3, h4, h5, h6, h7, h8, h9⟩ := Cond.laysStatic_spec hl
  exact ⟨c, k, i, f, a, cell, h1, h2, h3, h4, h5, h6, h7, h8, h9, hA a (Array.getElem?_eq_some_iff.mp h5).1⟩
theorem vx_isRef {C n d : String} {v : Value} {A : Nat → Prop} {s : State} {args : Array Value} (h : va_Z C n d v A s s.heap) (hv : v.isRef = true) : (Cond.isRef (.static C n d)).before args s = true := by
  obtain ⟨cf, kf, fi, f, a, cell, h1, h2, h3, h4, h5, h6, h7, -⟩ := h
  have he : (Term.static C n d).eval args s none [] s = some v := by
    simp [Term.eval, State.fieldNamed?, h1, h2, h4, h5, h6, h7]
  simp only [Cond.before, Cond.holds, Cond.value, he]
  cases v <;> simp_all [Value.isRef]
theorem vx_isRefq {C n d : String} {A : Nat → Prop} {s : State} {args : Array Value} (h : va_Zq C n d A s s.heap) : (Cond.isRef (.static C n d)).before args s = true := by
  rcases h with h | ⟨t, h⟩
  · exact vx_isRef h rfl
  · exact vx_isRef h rfl
/-- the same frame, seen from here: as if the method were called anew in this heap -/
theorem vx_rebase {T : State} (X : Stand p l e R s m args below meth c T locs cells slots) {R' : Room} (hf : R'.frames ≤ R.frames) (hl : R'.locals ≤ R.locals) (hc : cells + R'.cells ≤ R.cells) (hs : slots + R'.slots ≤ R.slots) :
    Stand p l e R' ((T.setVm s.vm).setFrames (.invoking m args :: below)) m args below meth c T [] 0 0 := by
  have htop : (T.setVm s.vm).topJava?.isSome := X.here.top
  have hF : ((T.setVm s.vm).setFrames (.invoking m args :: below)).frames = .invoking m args :: below := State.frames_setFrames _ (State.cur_lt_of_top htop)
  obtain ⟨g₀, hg0⟩ := Option.isSome_iff_exists.mp htop
  obtain ⟨r, hr⟩ := State.topJava?_eq_some.mp hg0
  have hl9 : e.platform.stackLimits (T.setVm s.vm).me = e.platform.stackLimits s.me := X.limits
  have hb9 : (T.setVm s.vm).me.stackBytes = s.me.stackBytes := X.bytes
  refine ⟨X.admits, X.cas, X.clock, hF, ?_, X.hears, X.method, X.code, X.here, X.tail, X.warmed, ?_, ?_, ?_⟩
  · have h := X.room
    have hU : ((T.setVm s.vm).setFrames (.invoking m args :: below)).localsInUse = s.localsInUse := by
      rw [State.localsInUse_invoking hF (meth := meth) (c := c) X.method X.code, State.localsInUse_invoking X.frames X.method X.code]
    simp only [State.hasRoom, Bool.and_eq_true, decide_eq_true_eq] at h ⊢
    obtain ⟨⟨⟨⟨h1, h2, h3, h4, h5, h6⟩, h7⟩, h8⟩, h9⟩ := h
    rw [X.frames, List.length_cons] at h2 h3
    have q1 := X.heapSize
    have q2 := X.used
    simp only [hF, hU, List.length_cons, State.stackLimits_setFrames, State.stackBytes_setFrames, hl9, hb9]
    refine ⟨⟨⟨⟨by omega, by omega, by omega, by omega, by omega, h6⟩, ?_⟩, ?_⟩, X.book⟩
    · show T.heap.size + R'.cells ≤ e.platform.maxCells
      omega
    · show T.slotsUsed + R'.slots ≤ e.platform.maxSlots
      omega
  · rw [State.stackLimits_setFrames]; rfl
  · rw [State.stackBytes_setFrames]; rfl
  · refine ⟨?_, Nat.le_refl _, Nat.le_refl _, ?_, ?_, fun a c9 h9 => ⟨c9, h9, rfl, rfl, fun _ _ => rfl⟩⟩
    · obtain ⟨t, ht, -⟩ := State.frames_cons hr
      show T.setVm s.vm = { ((T.setVm s.vm).setFrames (.invoking m args :: below)).setFrames (T.setVm s.vm).frames with heap := T.heap, slotsUsed := T.slotsUsed }
      rw [State.setFrames_setFrames, State.setFrames_self ht]
      rfl
    · show T.slotsUsed = T.slotsUsed + ((T.heap.toList.drop T.heap.size).map (·.slots.size)).sum
      rw [List.drop_eq_nil_of_le (Nat.le_of_eq Array.length_toList)]
      rfl
    · show ((T.heap.toList.drop T.heap.size).map (·.slots.size)).sum ≤ 0
      rw [List.drop_eq_nil_of_le (Nat.le_of_eq Array.length_toList)]
      exact Nat.le_refl _
/-- 'throw new E()': new; dup; invokespecial; athrow -/
theorem vx_throw0 {cc : ByteArray} {pc : Nat} (hexec : p.tables.exec = Jvm.exec) (hb : c.code = cc) (hl : l.stackTraces = false) {own cls : String} {names : List String} {ik ic mc ms : Nat} {A : Nat → Prop}
    (hown : s.vm.findClass own = some m.cls) (hcls : Bundle.fit cls = true) (hnames : ∀ n ∈ names, Bundle.fit n = true)
    (hk : (Cond.classLink own ik cls).before args s = true) (hini : (Cond.initialized cls).before args s = true) (hat : ∀ w ∈ vx_at0 own ic cls names, w.before args s = true)
    (hgood : ∀ w ∈ Cond.classLink own ik cls :: Cond.initialized cls :: vx_at0 own ic cls names, vx_ot w = true)
    (hU : vx_Zq Bundle.tN "UNASSIGNED_STACK" Bundle.steD A s s.heap) (hN : vx_Zq Bundle.tN "SUPPRESSED_SENTINEL" Bundle.listD A s s.heap) (hS : va_S A s.heap H locs) (hsize : ls.size = c.maxLocals)
    (d0 : decode cc pc = .ok (.new ik, 3)) (d3 : decode cc (pc + 3) = .ok (.dup, 1)) (d4 : decode cc (pc + 4) = .ok (.invokespecial ic, 3)) (d7 : decode cc (pc + 7) = .ok (.athrow, 1))
    (hout : ∀ x ∈ c.exceptionTable.toList, covers x (pc + 7) = false)
    (hRframes : names.length + 3 < R.frames) (hRlocals : (rest.map fun v => v.category).sum + (13 * (names.length + 1) + 42) ≤ R.locals) (hRcells : cells + 1 ≤ R.cells) (hRslots : slots + 6 ≤ R.slots) (hlocks : meth.locks = false)
    (hx : ∀ t : State, s.vm.Alike t.vm → H.size ≤ t.heap.size → (∀ q : Nat, q < H.size → t.heap[q]? = H[q]?) → XC cls s t)
    (hf : ∀ z ∈ locs, free z.base) (hc : cells + 1 ≤ mc) (hs : slots + 6 ≤ ms) :
    W p l e R s m args below meth c H locs cells slots (vx_MQ below Qc XC args s mc ms free) (F0 m pc ls rest) := by
  intro T hT X
  have htr : e.platform.stackTraces = false := (show e.platform.stackTraces = l.stackTraces by rw [X.admits.platform]).trans hl
  have Y := vx_rebase X (R' := { frames := R.frames, locals := R.locals, cells := 1, slots := 6 }) (Nat.le_refl _) (Nat.le_refl _) hRcells hRslots
  obtain ⟨s', hA⟩ : ∃ z, z = (T.setVm s.vm).setFrames (.invoking m args :: below) := ⟨_, rfl⟩
  rw [← hA] at Y
  have hvm : s'.vm = s.vm := by rw [hA]; rfl
  have hhp : s'.heap = H := by rw [hA]; exact hT
  have hW0 : s.WarmedH s'.vm := by rw [hvm]; exact State.WarmedH.refl s
  have hat' : ∀ w ∈ vx_at0 own ic cls names, w.before args s' = true := fun w hw => vx_ot_at hW0 hvm.symm (hgood w (List.mem_cons_of_mem _ (List.mem_cons_of_mem _ hw))) (hat w hw)
  have hk' : (Cond.classLink own ik cls).before args s' = true := vx_ot_at hW0 hvm.symm (hgood _ List.mem_cons_self) hk
  have hini' : (Cond.initialized cls).before args s' = true := vx_ot_at hW0 hvm.symm (hgood _ (List.mem_cons_of_mem _ List.mem_cons_self)) hini
  have hU' : vx_Zq Bundle.tN "UNASSIGNED_STACK" Bundle.steD A s' s'.heap := by rw [hhp]; exact vx_Zq.moved hW0.alike (hU.kept hS.2.1)
  have hN' : vx_Zq Bundle.tN "SUPPRESSED_SENTINEL" Bundle.listD A s' s'.heap := by rw [hhp]; exact vx_Zq.moved hW0.alike (hN.kept hS.2.1)
  have h : ∀ w ∈ Bundle.ownAtoms0 own ic cls names, w.before args s' = true := vx_own hat' (vx_isRefq hU'.1) (vx_isRefq hN'.1) hU'.2.word hN'.2.word
  have hown' : s'.vm.findClass own = some m.cls := by rw [hvm]; exact hown
  have hins : (Cond.instantiable cls 6).before args s' = true := h _ (by simp [Bundle.ownAtoms0])
  obtain ⟨vm₁, cX, kX, hfX, hkX, -, -, X₁, st1⟩ := Y.newCold hexec (own := own) (C := cls) (index := ik) (n := 6) hown' hk' hins hini'
    (g := F0 m pc ls rest) rfl (by rw [hb]; exact d0) (Nat.le_refl _) (Nat.le_refl _)
  generalize hT1 : (T.setVm vm₁).pushCell { cls := cX, slots := kX.instanceTypes.map defaultValue, vm := .none } = T1 at X₁ st1
  have hcat : (Value.ref T.heap.size).category = 1 := rfl
  have hcellA : T1.heap[T.heap.size]? = some (freshCell cX kX) := by rw [← hT1]; exact State.heap_pushCell_size _ _
  have d3' : decode c.code (pc + 3) = .ok (.dup, 1) := by rw [hb]; exact d3
  obtain ⟨U, hsteps, hrun, hend, hW, hsame, ce, hce, hO⟩ := X₁.ctorThrow0 hexec htr (own := own) (cls := cls) (names := names) (ic := ic) hown' hcls hnames h (fun x hx => nomatch hx) hfX hkX hcellA (by rw [hhp, hT]; exact Nat.le_refl _)
    (g := { method := m, pc := pc + 4, locals := ls, stack := .ref T.heap.size :: .ref T.heap.size :: rest, locked := none }) rfl hsize rfl rfl (rest := rest) rfl
    (by rw [hb]; exact d4) (by rw [hb]; exact d7) hout hRframes (by simp only [List.map_cons, List.sum_cons, hcat]; omega) hlocks
  obtain ⟨f1, f2⟩ := vx_frame hsame
  rw [hhp] at f1 f2
  have hWs : s.WarmedH U.vm := State.WarmedH.trans hW0 hW
  have hcl : s.vm.findClass cls = some ce.cls := by
    have h9 := hO.cls
    rw [hvm] at h9
    exact h9
  have hall : s.sameButNew ({ U with vm := s.vm } : State) locs mc ms := by
    subst hA
    obtain ⟨e1, e2⟩ := hsame
    rw [State.setFrames_setFrames] at e1
    have h2 : (T.setVm s.vm).sameButNew ({ U with vm := s.vm } : State) [] (0 + 1) (0 + 6) := ⟨e1, e2⟩
    have h3 := X.same.trans h2
    rw [List.append_nil] at h3
    exact h3.mono hc hs
  refine ⟨U, ?_, .threw T.heap.size, hrun, hend, Or.inr ⟨T.heap.size, rfl, cls, ce, locs, hx U hWs.alike f1 (fun q hq => f2 q hq (fun z hz => nomatch hz)), hce, hO.vm, hcl, hWs, hall, hf⟩⟩
  refine st1 _ ?_
  show Steps p.tables e below (T1.setTop { method := m, pc := pc + 3, locals := ls, stack := .ref T.heap.size :: rest, locked := none }) _
  jvm_step X₁.here [X₁.here.top, hexec, d3', Value.category]
  exact hsteps
/-- 'throw new E("text")': new; dup; ldc; invokespecial; athrow -/
theorem vx_throwS {cc : ByteArray} {pc : Nat} (hexec : p.tables.exec = Jvm.exec) (hb : c.code = cc) (hl : l.stackTraces = false) {own cls text : String} {names : List String} {ik is ic mc ms sa : Nat} {A : Nat → Prop}
    (hown : s.vm.findClass own = some m.cls) (hcls : Bundle.fit cls = true) (hnames : ∀ n ∈ names, Bundle.fit n = true)
    (hk : (Cond.classLink own ik cls).before args s = true) (hini : (Cond.initialized cls).before args s = true) (hstr : vk_R own is text sa s) (hat : ∀ w ∈ vx_atS own ic cls names, w.before args s = true)
    (hgood : ∀ w ∈ Cond.classLink own ik cls :: Cond.initialized cls :: vx_atS own ic cls names, vx_ot w = true)
    (hU : vx_Zq Bundle.tN "UNASSIGNED_STACK" Bundle.steD A s s.heap) (hN : vx_Zq Bundle.tN "SUPPRESSED_SENTINEL" Bundle.listD A s s.heap) (hS : va_S A s.heap H locs) (hsize : ls.size = c.maxLocals)
    (d0 : decode cc pc = .ok (.new ik, 3)) (d3 : decode cc (pc + 3) = .ok (.dup, 1)) (d4 : decode cc (pc + 4) = .ok (.ldc is, 2)) (d6 : decode cc (pc + 6) = .ok (.invokespecial ic, 3)) (d9 : decode cc (pc + 9) = .ok (.athrow, 1))
    (hout : ∀ x ∈ c.exceptionTable.toList, covers x (pc + 9) = false)
    (hRframes : names.length + 3 < R.frames) (hRlocals : (rest.map fun v => v.category).sum + (13 * (names.length + 1) + 43) ≤ R.locals) (hRcells : cells + 1 ≤ R.cells) (hRslots : slots + 6 ≤ R.slots) (hlocks : meth.locks = false)
    (hx : ∀ t : State, s.vm.Alike t.vm → H.size ≤ t.heap.size → (∀ q : Nat, q < H.size → t.heap[q]? = H[q]?) → XC cls s t)
    (hf : ∀ z ∈ locs, free z.base) (hc : cells + 1 ≤ mc) (hs : slots + 6 ≤ ms) :
    W p l e R s m args below meth c H locs cells slots (vx_MQ below Qc XC args s mc ms free) (F0 m pc ls rest) := by
  intro T hT X
  have htr : e.platform.stackTraces = false := (show e.platform.stackTraces = l.stackTraces by rw [X.admits.platform]).trans hl
  have Y := vx_rebase X (R' := { frames := R.frames, locals := R.locals, cells := 1, slots := 6 }) (Nat.le_refl _) (Nat.le_refl _) hRcells hRslots
  obtain ⟨s', hA⟩ : ∃ z, z = (T.setVm s.vm).setFrames (.invoking m args :: below) := ⟨_, rfl⟩
  rw [← hA] at Y
  have hvm : s'.vm = s.vm := by rw [hA]; rfl
  have hhp : s'.heap = H := by rw [hA]; exact hT
  have hW0 : s.WarmedH s'.vm := by rw [hvm]; exact State.WarmedH.refl s
  have hat' : ∀ w ∈ vx_atS own ic cls names, w.before args s' = true := fun w hw => vx_ot_at hW0 hvm.symm (hgood w (List.mem_cons_of_mem _ (List.mem_cons_of_mem _ hw))) (hat w hw)
  have hk' : (Cond.classLink own ik cls).before args s' = true := vx_ot_at hW0 hvm.symm (hgood _ List.mem_cons_self) hk
  have hini' : (Cond.initialized cls).before args s' = true := vx_ot_at hW0 hvm.symm (hgood _ (List.mem_cons_of_mem _ List.mem_cons_self)) hini
  have hU' : vx_Zq Bundle.tN "UNASSIGNED_STACK" Bundle.steD A s' s'.heap := by rw [hhp]; exact vx_Zq.moved hW0.alike (hU.kept hS.2.1)
  have hN' : vx_Zq Bundle.tN "SUPPRESSED_SENTINEL" Bundle.listD A s' s'.heap := by rw [hhp]; exact vx_Zq.moved hW0.alike (hN.kept hS.2.1)
  have h : ∀ w ∈ Bundle.ownAtoms own ic cls names, w.before args s' = true := vx_own hat' (vx_isRefq hU'.1) (vx_isRefq hN'.1) hU'.2.word hN'.2.word
  have hown' : s'.vm.findClass own = some m.cls := by rw [hvm]; exact hown
  have hins : (Cond.instantiable cls 6).before args s' = true := h _ (by simp [Bundle.ownAtoms])
  obtain ⟨vm₁, cX, kX, hfX, hkX, -, -, X₁, st1⟩ := Y.newCold hexec (own := own) (C := cls) (index := ik) (n := 6) hown' hk' hins hini'
    (g := F0 m pc ls rest) rfl (by rw [hb]; exact d0) (Nat.le_refl _) (Nat.le_refl _)
  generalize hT1 : (T.setVm vm₁).pushCell { cls := cX, slots := kX.instanceTypes.map defaultValue, vm := .none } = T1 at X₁ st1
  have hcat : (Value.ref T.heap.size).category = 1 := rfl
  have hcellA : T1.heap[T.heap.size]? = some (freshCell cX kX) := by rw [← hT1]; exact State.heap_pushCell_size _ _
  have d3' : decode c.code (pc + 3) = .ok (.dup, 1) := by rw [hb]; exact d3
  have d4' : decode c.code (pc + 4) = .ok (.ldc is, 2) := by rw [hb]; exact d4
  have hstr' : vk_R own is text sa s' := vk_R.warm hW0 hstr
  obtain ⟨U, hsteps, hrun, hend, hW, hsame, ce, hce, hO⟩ := X₁.ctorThrowS hexec htr (own := own) (cls := cls) (names := names) (ic := ic) hown' hcls hnames h (fun x hx => nomatch hx) hfX hkX hcellA (by rw [hhp, hT]; exact Nat.le_refl _) (msg := .ref sa) rfl
    (g := { method := m, pc := pc + 6, locals := ls, stack := .ref sa :: .ref T.heap.size :: .ref T.heap.size :: rest, locked := none }) rfl hsize rfl rfl (rest := rest) rfl
    (by rw [hb]; exact d6) (by rw [hb]; exact d9) hout hRframes (by simp only [List.map_cons, List.sum_cons, hcat]; omega) hlocks
  obtain ⟨f1, f2⟩ := vx_frame hsame
  rw [hhp] at f1 f2
  have hWs : s.WarmedH U.vm := State.WarmedH.trans hW0 hW
  have hcl : s.vm.findClass cls = some ce.cls := by
    have h9 := hO.cls
    rw [hvm] at h9
    exact h9
  have hall : s.sameButNew ({ U with vm := s.vm } : State) locs mc ms := by
    subst hA
    obtain ⟨e1, e2⟩ := hsame
    rw [State.setFrames_setFrames] at e1
    have h2 : (T.setVm s.vm).sameButNew ({ U with vm := s.vm } : State) [] (0 + 1) (0 + 6) := ⟨e1, e2⟩
    have h3 := X.same.trans h2
    rw [List.append_nil] at h3
    exact h3.mono hc hs
  refine ⟨U, ?_, .threw T.heap.size, hrun, hend, Or.inr ⟨T.heap.size, rfl, cls, ce, locs, hx U hWs.alike f1 (fun q hq => f2 q hq (fun z hz => nomatch hz)), hce, hO.vm, hcl, hWs, hall, hf⟩⟩
  refine st1 _ ?_
  show Steps p.tables e below (T1.setTop { method := m, pc := pc + 3, locals := ls, stack := .ref T.heap.size :: rest, locked := none }) _
  jvm_step X₁.here [X₁.here.top, hexec, d3', Value.category]
  exact X₁.ldcString hexec (own := own) (text := text) (index := is) (a := sa) hown' hstr'.1 hstr'.2
    (g := { method := m, pc := pc + 4, locals := ls, stack := .ref T.heap.size :: .ref T.heap.size :: rest, locked := none }) rfl d4' _ hsteps
/-- 'throw new E("text")', the text by a wide index -/
theorem vx_throwSW {cc : ByteArray} {pc : Nat} (hexec : p.tables.exec = Jvm.exec) (hb : c.code = cc) (hl : l.stackTraces = false) {own cls text : String} {names : List String} {ik is ic mc ms sa : Nat} {A : Nat → Prop}
    (hown : s.vm.findClass own = some m.cls) (hcls : Bundle.fit cls = true) (hnames : ∀ n ∈ names, Bundle.fit n = true)
    (hk : (Cond.classLink own ik cls).before args s = true) (hini : (Cond.initialized cls).before args s = true) (hstr : vk_R own is text sa s) (hat : ∀ w ∈ vx_atS own ic cls names, w.before args s = true)
    (hgood : ∀ w ∈ Cond.classLink own ik cls :: Cond.initialized cls :: vx_atS own ic cls names, vx_ot w = true)
    (hU : vx_Zq Bundle.tN "UNASSIGNED_STACK" Bundle.steD A s s.heap) (hN : vx_Zq Bundle.tN "SUPPRESSED_SENTINEL" Bundle.listD A s s.heap) (hS : va_S A s.heap H locs) (hsize : ls.size = c.maxLocals)
    (d0 : decode cc pc = .ok (.new ik, 3)) (d3 : decode cc (pc + 3) = .ok (.dup, 1)) (d4 : decode cc (pc + 4) = .ok (.ldc_w is, 3)) (d7 : decode cc (pc + 7) = .ok (.invokespecial ic, 3)) (d10 : decode cc (pc + 10) = .ok (.athrow, 1))
    (hout : ∀ x ∈ c.exceptionTable.toList, covers x (pc + 10) = false)
    (hRframes : names.length + 3 < R.frames) (hRlocals : (rest.map fun v => v.category).sum + (13 * (names.length + 1) + 43) ≤ R.locals) (hRcells : cells + 1 ≤ R.cells) (hRslots : slots + 6 ≤ R.slots) (hlocks : meth.locks = false)
    (hx : ∀ t : State, s.vm.Alike t.vm → H.size ≤ t.heap.size → (∀ q : Nat, q < H.size → t.heap[q]? = H[q]?) → XC cls s t)
    (hf : ∀ z ∈ locs, free z.base) (hc : cells + 1 ≤ mc) (hs : slots + 6 ≤ ms) :
    W p l e R s m args below meth c H locs cells slots (vx_MQ below Qc XC args s mc ms free) (F0 m pc ls rest) := by
  intro T hT X
  have htr : e.platform.stackTraces = false := (show e.platform.stackTraces = l.stackTraces by rw [X.admits.platform]).trans hl
  have Y := vx_rebase X (R' := { frames := R.frames, locals := R.locals, cells := 1, slots := 6 }) (Nat.le_refl _) (Nat.le_refl _) hRcells hRslots
  obtain ⟨s', hA⟩ : ∃ z, z = (T.setVm s.vm).setFrames (.invoking m args :: below) := ⟨_, rfl⟩
  rw [← hA] at Y
  have hvm : s'.vm = s.vm := by rw [hA]; rfl
  have hhp : s'.heap = H := by rw [hA]; exact hT
  have hW0 : s.WarmedH s'.vm := by rw [hvm]; exact State.WarmedH.refl s
  have hat' : ∀ w ∈ vx_atS own ic cls names, w.before args s' = true := fun w hw => vx_ot_at hW0 hvm.symm (hgood w (List.mem_cons_of_mem _ (List.mem_cons_of_mem _ hw))) (hat w hw)
  have hk' : (Cond.classLink own ik cls).before args s' = true := vx_ot_at hW0 hvm.symm (hgood _ List.mem_cons_self) hk
  have hini' : (Cond.initialized cls).before args s' = true := vx_ot_at hW0 hvm.symm (hgood _ (List.mem_cons_of_mem _ List.mem_cons_self)) hini
  have hU' : vx_Zq Bundle.tN "UNASSIGNED_STACK" Bundle.steD A s' s'.heap := by rw [hhp]; exact vx_Zq.moved hW0.alike (hU.kept hS.2.1)
  have hN' : vx_Zq Bundle.tN "SUPPRESSED_SENTINEL" Bundle.listD A s' s'.heap := by rw [hhp]; exact vx_Zq.moved hW0.alike (hN.kept hS.2.1)
  have h : ∀ w ∈ Bundle.ownAtoms own ic cls names, w.before args s' = true := vx_own hat' (vx_isRefq hU'.1) (vx_isRefq hN'.1) hU'.2.word hN'.2.word
  have hown' : s'.vm.findClass own = some m.cls := by rw [hvm]; exact hown
  have hins : (Cond.instantiable cls 6).before args s' = true := h _ (by simp [Bundle.ownAtoms])
  obtain ⟨vm₁, cX, kX, hfX, hkX, -, -, X₁, st1⟩ := Y.newCold hexec (own := own) (C := cls) (index := ik) (n := 6) hown' hk' hins hini'
    (g := F0 m pc ls rest) rfl (by rw [hb]; exact d0) (Nat.le_refl _) (Nat.le_refl _)
  generalize hT1 : (T.setVm vm₁).pushCell { cls := cX, slots := kX.instanceTypes.map defaultValue, vm := .none } = T1 at X₁ st1
  have hcat : (Value.ref T.heap.size).category = 1 := rfl
  have hcellA : T1.heap[T.heap.size]? = some (freshCell cX kX) := by rw [← hT1]; exact State.heap_pushCell_size _ _
  have d3' : decode c.code (pc + 3) = .ok (.dup, 1) := by rw [hb]; exact d3
  have d4' : decode c.code (pc + 4) = .ok (.ldc_w is, 3) := by rw [hb]; exact d4
  have hstr' : vk_R own is text sa s' := vk_R.warm hW0 hstr
  obtain ⟨U, hsteps, hrun, hend, hW, hsame, ce, hce, hO⟩ := X₁.ctorThrowS hexec htr (own := own) (cls := cls) (names := names) (ic := ic) hown' hcls hnames h (fun x hx => nomatch hx) hfX hkX hcellA (by rw [hhp, hT]; exact Nat.le_refl _) (msg := .ref sa) rfl
    (g := { method := m, pc := pc + 7, locals := ls, stack := .ref sa :: .ref T.heap.size :: .ref T.heap.size :: rest, locked := none }) rfl hsize rfl rfl (rest := rest) rfl
    (by rw [hb]; exact d7) (by rw [hb]; exact d10) hout hRframes (by simp only [List.map_cons, List.sum_cons, hcat]; omega) hlocks
  obtain ⟨f1, f2⟩ := vx_frame hsame
  rw [hhp] at f1 f2
  have hWs : s.WarmedH U.vm := State.WarmedH.trans hW0 hW
  have hcl : s.vm.findClass cls = some ce.cls := by
    have h9 := hO.cls
    rw [hvm] at h9
    exact h9
  have hall : s.sameButNew ({ U with vm := s.vm } : State) locs mc ms := by
    subst hA
    obtain ⟨e1, e2⟩ := hsame
    rw [State.setFrames_setFrames] at e1
    have h2 : (T.setVm s.vm).sameButNew ({ U with vm := s.vm } : State) [] (0 + 1) (0 + 6) := ⟨e1, e2⟩
    have h3 := X.same.trans h2
    rw [List.append_nil] at h3
    exact h3.mono hc hs
  refine ⟨U, ?_, .threw T.heap.size, hrun, hend, Or.inr ⟨T.heap.size, rfl, cls, ce, locs, hx U hWs.alike f1 (fun q hq => f2 q hq (fun z hz => nomatch hz)), hce, hO.vm, hcl, hWs, hall, hf⟩⟩
  refine st1 _ ?_
  show Steps p.tables e below (T1.setTop { method := m, pc := pc + 3, locals := ls, stack := .ref T.heap.size :: rest, locked := none }) _
  jvm_step X₁.here [X₁.here.top, hexec, d3', Value.category]
  exact X₁.ldcStringW hexec (own := own) (text := text) (index := is) (a := sa) hown' hstr'.1 hstr'.2
    (g := { method := m, pc := pc + 4, locals := ls, stack := .ref T.heap.size :: .ref T.heap.size :: rest, locked := none }) rfl d4' _ hsteps
end Ends
section Bodies
variable {l : Launch}
theorem vx_ofW {y : MethodName} {ws ws' : List Cond} {rm : Room} {Pc : Array Value → State → Prop} {Qc : Array Value → State → Outcome → State → Prop} {XC : String → State → State → Prop} {mc ms : Nat} {free : Addr → Prop} {cc : ByteArray} {maxL : Nat} {ret : Option FieldType}
    (hy : plainName y.cls = true) (hw : ws = Cond.code y cc maxL ret :: ws')
    (body : ∀ p e s m args below meth c s₁, BodyLoose p l y (headSpec ws rm) cc maxL ret e s m args below meth c s₁ → c.maxLocals = maxL → (∀ x ∈ c.exceptionTable.toList, False) → Pc args s →
      W p l e (headSpec ws rm).room s m args below meth c s.heap [] 0 0 (vx_MQ below Qc XC args s mc ms free) (entryFrame m args maxL)) : vx_Met l y ws rm Pc Qc XC mc ms free := by
  refine MetFree.of_bodyS (code := cc) (maxLocals := maxL) (ret := ret) hy ?_ ?_
  · intro args s m h hn
    obtain ⟨meth, c, h1, h2, h3, h4, h5, h6, -, -⟩ := Cond.code_spec hn (atoms_spec (ws := ws) h _ (by rw [hw]; exact List.mem_cons_self))
    exact ⟨meth, c, h1, h2, h3, h4, h5, h6⟩
  · intro p e s m args below meth c s₁ B hml hP _
    have hh0 : s₁.heap = s.heap := by rw [B.state]; rfl
    have ht : ∀ x ∈ c.exceptionTable.toList, False := by
      obtain ⟨meth9, c9, h1, h2, -, -, -, -, h7, -⟩ := Cond.code_spec B.named (atoms_spec (ws := ws) B.pre _ (by rw [hw]; exact List.mem_cons_self))
      cases Option.some.inj (h1.symm.trans B.method)
      cases Option.some.inj (h2.symm.trans (Stand.of_body B).code)
      intro x hx
      rw [Array.isEmpty_iff.mp h7] at hx
      cases hx
    obtain ⟨t, a1, o, b1, b2, b3⟩ := body p e s m args below meth c s₁ B hml ht hP s₁ hh0 (Stand.of_body B)
    exact ⟨t, o, a1, b1, b2, b3⟩
/-- the table of a body with handlers -/
theorem vx_table {p : Program} {x y : MethodName} {S : Spec} {cc bytes : ByteArray} {maxL maxL' : Nat} {ret ret' : Option FieldType} {e : Env} {s s₁ : State} {m : MethodId} {args : Array Value} {below : List Frame} {meth : Method} {c : Code} {hh : List (Nat × Nat × Nat × Nat)}
    (B : BodyLoose p l y S cc maxL ret e s m args below meth c s₁) (h : (Cond.codeWith y bytes maxL' ret' hh).before args s = true) : c.exceptionTable.toList = tableOf hh := by
  obtain ⟨m9, meth9, c9, hn9, h1, h2, -, -, h6, -⟩ := Cond.codeWith_spec h
  cases Option.some.inj (hn9.symm.trans B.named)
  cases Option.some.inj (h1.symm.trans B.method)
  cases Option.some.inj (h2.symm.trans (Stand.of_body B).code)
  rw [← h6, table_eq]
end Bodies
end VXA
/-! ===== END ===== -/
/-! ===== BEGIN a static call of a method with an exception table ===== -/
section VXS
variable {p : Program} {l : Launch} {e : Env} {R : Room} {s : State} {m : MethodId} {args : Array Value} {below : List Frame} {meth : Method} {c : Code} {T : State} {H : Heap} {locs : List Loc} {cells slots : Nat}
abbrev vx_CSW (R : Room) (s : State) (args : Array Value) (own : String) (index : Nat) (y : MethodName) (bytes : ByteArray) (maxL : Nat) (ret : Option FieldType) (hh : List (Nat × Nat × Nat × Nat)) (ws : List Cond) (rm : Room) (mc ms n : Nat) : Prop :=
  (rm.cells = mc ∧ rm.slots = ms ∧ rm.frames + 1 ≤ R.frames ∧ 8 + (maxL + 11) + rm.locals ≤ R.locals ∧ (∀ w ∈ ws, ∀ (a' : Array Value) (U : State), s.WarmedH U.vm → w.before a' U = true) ∧ Cond.codeWith y bytes maxL ret hh ∈ ws) ∧
  (Cond.codeWith y bytes maxL ret hh).before args s = true ∧ (Cond.initialized y.cls).before args s = true ∧ (y.cls ≠ "java/lang/invoke/MethodHandle" ∧ y.cls ≠ "java/lang/invoke/VarHandle") ∧
  (∀ sig, parseMethodDescriptor y.desc = some sig → n = sig.parameters.length) ∧ (Cond.methodLink own index y).before args s = true ∧ (Cond.static y).before args s = true
theorem vx_cwSW {own : String} {index maxL mc ms : Nat} {y : MethodName} {bytes : ByteArray} {ret : Option FieldType} {hh : List (Nat × Nat × Nat × Nat)} {Ts ws ws' : List Cond} {rm : Room} (n : Nat) (ht : ∀ w ∈ Ts, w.before args s = true) (hT : GoodIn Ts (va_wsS own index y ws)) (hw : ws = Cond.codeWith y bytes maxL ret hh :: ws') (hrc : rm.cells = mc) (hrs : rm.slots = ms)
    (hd : y.cls ≠ "java/lang/invoke/MethodHandle" ∧ y.cls ≠ "java/lang/invoke/VarHandle" ∧ (parseMethodDescriptor y.desc).map (fun d => d.parameters.length) = some n) (hR : rm.frames + 1 ≤ R.frames ∧ 8 + (maxL + 11) + rm.locals ≤ R.locals) :
    vx_CSW R s args own index y bytes maxL ret hh ws rm mc ms n := by
  have ok : ∀ w ∈ va_wsS own index y ws, w.before args s = true := fun w h => ht w (hT w h).1
  have hG : GoodIn Ts ws := fun w h => hT w (by unfold va_wsS; exact List.mem_append_right _ h)
  have hc : Cond.codeWith y bytes maxL ret hh ∈ ws := by rw [hw]; exact List.mem_cons_self
  refine ⟨⟨hrc, hrs, hR.1, hR.2, pay_in ht hG, hc⟩, ht _ (hG _ hc).1, ok _ (by simp [va_wsS]), ⟨hd.1, hd.2.1⟩, fun sig h => ?_, ok _ (by simp [va_wsS]), ok _ (by simp [va_wsS])⟩
  have h2 := hd.2.2
  rw [h] at h2
  exact (Option.some.inj h2).symm
theorem vx_callSW (X : Stand p l e R s m args below meth c T locs cells slots) (hexec : p.tables.exec = Jvm.exec) {own : String} {index : Nat} {y : MethodName} {bytes : ByteArray} {maxL : Nat} {ret : Option FieldType} {hh : List (Nat × Nat × Nat × Nat)}
    (hown : s.vm.findClass own = some m.cls) (hlink : (Cond.methodLink own index y).before args s = true) (hstat : (Cond.static y).before args s = true) (hinit : (Cond.initialized y.cls).before args s = true)
    (hcode : (Cond.codeWith y bytes maxL ret hh).before args s = true) (hy : y.cls ≠ "java/lang/invoke/MethodHandle" ∧ y.cls ≠ "java/lang/invoke/VarHandle")
    {W9 : Nat} {Pre : Pt → Array Value → Prop} {Post : Pt → Array Value → Option Value → Pt → Prop} (hK : Back l R p e below s args y 3 W9 Pre Post)
    {g : JFrame} (hg : g.method = m) (hsize : g.locals.size = c.maxLocals) {argsL rest : List Value} (hlen : ∀ sig, parseMethodDescriptor y.desc = some sig → argsL.length = sig.parameters.length)
    (hstack : g.stack = argsL.reverse ++ rest) (hW : 2 * g.monitorRoom + (rest.map fun v => v.category).sum ≤ W9) (hdg : decode c.code g.pc = .ok (.invokestatic index, 3))
    (hpre : ∀ vm₁, s.WarmedH vm₁ → Pre ⟨T.setVm vm₁, locs, cells, slots⟩ argsL.toArray) :
    ∃ (v : Option Value) (vm₁ : Vm) (B : Pt), s.WarmedH vm₁ ∧ Stand p l e R s m args below meth c B.U B.locs B.cells B.slots ∧ Post ⟨T.setVm vm₁, locs, cells, slots⟩ argsL.toArray v B ∧
      ∀ target, Steps p.tables e below (B.U.setTop { g with pc := g.pc + 3, stack := v.toList ++ rest }) target → Steps p.tables e below (T.setTop g) target := by
  obtain ⟨mk, methM, cM, hnamed, hmethM, -, -, -, -, -, -, hsigM⟩ := Cond.codeWith_spec hcode
  have hstatic : methM.isStatic = true := Cond.static_spec hnamed hmethM hstat
  obtain ⟨kP, hkP, -⟩ := className_of_methodNamed hnamed
  have hinitP : kP.init = .initialized := Cond.initialized_spec (findClass_of_methodNamed hnamed) hkP hinit
  obtain ⟨vm₁, X₁, hstep₁⟩ := X.invokestatic hexec hown hlink hnamed hmethM hstatic hkP hinitP hy (g := g) hg (argsL := argsL) (rest := rest) (hlen _ hsigM) hstack hdg
  obtain ⟨v, B, X', hpost, hsteps⟩ := hK m meth c ⟨T.setVm vm₁, locs, cells, slots⟩ { g with stack := rest } (.invokestatic index) mk argsL.toArray X₁ hg hsize hdg hW (X₁.named hnamed) (hpre vm₁ X₁.warmed)
  exact ⟨v, vm₁, B, X₁.warmed, X', hpost, fun target h => hstep₁ _ fun acts => by rw [doInvoke_state]; exact hsteps.trans h⟩
theorem vx_runSW {y : MethodName} {bytes cc : ByteArray} {maxL nL mc ms n index : Nat} {ret : Option FieldType} {hh : List (Nat × Nat × Nat × Nat)} {ws : List Cond} {rm : Room} {Pc : Array Value → State → Prop} {Qc : Array Value → State → Outcome → State → Prop} {free : Addr → Prop} {Ts : List Cond} {own : String} {As rest : List Value} {g : JFrame}
    (S : CallFix p m c cc nL s args Ts own) (hM : Met l y ws rm Pc Qc mc ms free) (cw : vx_CSW R s args own index y bytes maxL ret hh ws rm mc ms n) (hp : PreS s H Pc As)
    (hg : g.method = m) (hn : As.length = n) (hsize : g.locals.size = nL) (hstack : g.stack = As.reverse ++ rest) (hW : 2 * g.monitorRoom + (rest.map fun v => v.category).sum ≤ 8) (hdg : decode cc g.pc = .ok (.invokestatic index, 3)) (hf : cells + mc ≤ R.cells ∧ slots + ms ≤ R.slots) :
    va_Run p l e R s m args below meth c H locs cells slots mc ms g rest (Qc As.toArray) (free) := by
  obtain ⟨⟨hrc, hrs, hfr, hlo, hws, hcw⟩, hcode, hini, hy, hlen, hl, hstt⟩ := cw
  have hK : Back l R p e below s args y 3 8 (PreOf R mc ms Pc) (PostOf Qc mc ms free) := va_backW (hh := hh) (bytes := bytes) (maxL := maxL) (ret := ret) hM hp.1 hrc hrs hfr hlo hws hcw (fun a' U hW => word_at hW (Or.inl (by first | rfl | simp [Cond.onTables, Cond.keeps, Cond.steady])) hini)
  obtain ⟨hx, hb, hml, ho, -⟩ := S
  intro T hT X
  obtain ⟨v, vm₁, ⟨U', l2, c2, s2⟩, hW₁, X', ⟨g', mk, t, L, e1, e2, hq, h1, hL, h2, h3⟩, st⟩ := vx_callSW X hx (hh := hh) (bytes := bytes) (maxL := maxL) (ret := ret) ho hl hstt hini hcode hy hK hg (hsize.trans hml.symm) (argsL := As) (rest := rest) (fun sig h => hn.trans (hlen sig h)) hstack hW (by rw [hb]; exact hdg)
    (fun vm₁ hW₁ => ⟨hf.1, hf.2, hp.2 (T.setVm vm₁) hT hW₁⟩)
  dsimp only [Pt.U, Pt.locs, Pt.cells, Pt.slots] at X' e1 e2 h1 h2 h3 st
  subst h1; subst h2; subst h3
  exact ⟨v, (T.setVm vm₁).calling g' mk As.toArray, t, U', L, hT, X', hL, e1, e2, hq, st⟩
/-- not caught here, past rows that name other classes: it goes on to the caller -/
theorem vx_outP {p : Program} {l : Launch} {e : Env} {R : Room} {s : State} {m : MethodId} {args : Array Value} {below : List Frame} {meth : Method} {c : Code} {H : Heap} {locs : List Loc} {cells slots : Nat} {free : Addr → Prop} {ls : Array Slot} {rest : List Value} {Qc : Array Value → State → Outcome → State → Prop} {XC : String → State → State → Prop}
    {pc : Nat} {own E : String} {ce : Cell} {q : Addr} {mc ms : Nat} (hown : s.vm.findClass own = some m.cls) (hlocks : meth.locks = false)
    (hpass : ∀ z ∈ c.exceptionTable.toList, covers z pc = false ∨ (z.catchType ≠ 0 ∧ ∃ nm : String, (Cond.classLink own z.catchType nm).before args s = true ∧ va_Nc E nm s)) (hcell : H[q]? = some ce) (hv : ce.vm = .none) (hcl : s.vm.findClass E = some ce.cls)
    (hx : ∀ t : State, t.heap = H → s.vm.Alike t.vm → XC E s t) (hf : ∀ z ∈ locs, free z.base) (hc : cells ≤ mc) (hs : slots ≤ ms) :
    vx_W p l e R s m args below meth c H locs cells slots (vx_MQ below Qc XC args s mc ms free) (F0 m pc ls rest) q := by
  intro T hT X
  have hpl : e.platform.magicAccessors = ({} : Platform).magicAccessors := by rw [X.admits.platform]
  obtain ⟨vm', hW', X', st⟩ := X.outThrough hlocks q (g := F0 m pc ls rest) rfl rfl rfl (cell := ce) (by rw [hT]; exact hcell) (by rw [hv]; rfl)
    (by obtain ⟨k9, h9, -⟩ := Vm.findClass_spec hcl; exact ⟨k9, h9⟩) (fun z hz => by
      rcases hpass z hz with h | ⟨hz0, nm, hl1, hn1⟩
      · exact Or.inl h
      · obtain ⟨c6, hc6, hcl6⟩ := Cond.classLink_spec hown hl1 e.platform hpl
        obtain ⟨a8, b8, h1, h2, h3⟩ := hn1
        cases Option.some.inj (h1.symm.trans hcl)
        cases Option.some.inj (h2.symm.trans hc6)
        exact Or.inr ⟨hz0, _, hcl6, h3⟩)
  obtain ⟨g₀, hfr⟩ := X'.frames_eq
  have hcell9 : ((T.setVm vm').setFrames (.throwing q :: below)).heap[q]? = some ce := by
    show T.heap[q]? = some ce
    rw [hT]; exact hcell
  have hend : Ended ((T.setVm vm').setFrames (.throwing q :: below)) below (.threw q) := State.frames_setFrames _ (State.cur_lt_of_frames hfr)
  refine ⟨(T.setVm vm').setFrames (.throwing q :: below), ?_, .threw q, X'.here.running, hend, Or.inr ⟨q, rfl, E, ce, locs, hx _ hT (X'.ends _).1.alike, hcell9, hv, hcl, (X'.ends _).1, (X'.ends _).2.mono hc hs, hf⟩⟩
  rw [X.pushThrowing_eq]
  exact st
/-- a thing of a world lies in the heap -/
theorem vx_lt {D : va_G} {cl : List vw_C} {ws : va_W} {H1 : Heap} (h : va_P D cl ws H1) {k : Nat} {q : Nat × va_E} (hk : ws[k]? = some q) : q.1 < H1.size := (h k q hk).lt
end VXS
/-! ===== END ===== -/
/-! ===== BEGIN methods with a table of their own: called by a name, returning or throwing ===== -/
section VXH
/-! vx_backW, vx_callVX, vx_callSX, vx_callVW, vx_runVW, vx_runVX, vx_runSX, vx_ofWH follow the same proofs as their sisters above (Free/Laws.lean, Shelf42/LK1.lean); vx_outP calls Shelf42/NT130.lean (outThrough). -/
section
variable {l : Launch} {R : Room} {p : Program} {e : Env} {below : List Frame} {s : State} {sargs : Array Value} {y : MethodName} {len W9 : Nat}
theorem vx_backW {ws : List Cond} {rm : Room} {Pc : Array Value → State → Prop} {Qc : Array Value → State → Outcome → State → Prop} {XC : String → State → State → Prop} {mc ms : Nat} {free : Addr → Prop} {bytes : ByteArray} {maxL : Nat} {ret : Option FieldType} {hh : List (Nat × Nat × Nat × Nat)}
    (hM : vx_Met l y ws rm Pc Qc XC mc ms free) (hblind : FrameBlind Pc) (hrc : rm.cells = mc) (hrs : rm.slots = ms)
    (hframes : rm.frames + 1 ≤ R.frames) (hlocals : W9 + (maxL + 11) + rm.locals ≤ R.locals)
    (hws : ∀ w ∈ ws, ∀ a' U, s.WarmedH U.vm → w.before a' U = true) (hcode : Cond.codeWith y bytes maxL ret hh ∈ ws) (hinit : ∀ a' U, s.WarmedH U.vm → (Cond.initialized y.cls).before a' U = true) :
    vx_Back l R p e below s sargs y len W9 (PreOf R mc ms Pc) (PostOf Qc mc ms free) (vx_Post XC mc ms free) := by
  intro m meth c A g ig mk a X hg hsize hdg hW hn hp
  have h1 : (headSpec ws rm).pre.before a A.U = true := atoms_intro fun w hw => hws w hw _ _ X.warmed
  have h2 : (Cond.codeWith y bytes maxL ret hh).before a A.U = true := hws _ hcode _ _ X.warmed
  have h3 : (Cond.initialized y.cls).before a A.U = true := hinit _ _ X.warmed
  have h4 : A.cells + (headSpec ws rm).room.cells ≤ R.cells := by rw [show (headSpec ws rm).room.cells = mc from hrc]; exact hp.1
  have h5 : A.slots + (headSpec ws rm).room.slots ≤ R.slots := by rw [show (headSpec ws rm).room.slots = ms from hrs]; exact hp.2.1
  have hPc : Pc a (A.U.calling g mk a) := hblind _ _ _ _ hp.2.2
  obtain ⟨U, Ls, c0, s0⟩ := A
  dsimp only [Pt.U, Pt.locs, Pt.cells, Pt.slots] at h1 h2 h3 h4 h5 X hn hPc ⊢
  obtain ⟨m9, methY, cY, hn9, hmY, hcY, -, hlY, -⟩ := Cond.codeWith_spec h2
  cases Option.some.inj (hn9.symm.trans hn)
  obtain ⟨kY, hkY, -⟩ := className_of_methodNamed hn
  have hinitY : kY.init = .initialized := Cond.initialized_spec (findClass_of_methodNamed hn) hkY h3
  have h : At U g.method c below := by rw [hg]; exact X.here
  have hlocals9 : W9 + (maxL + 11) + (headSpec ws rm).room.locals ≤ R.locals := hlocals
  have happ : (headSpec ws rm).appliesLoose y e.platform (U.calling g mk a) = true :=
    Spec.appliesLoose_calling (g := g) h hdg hn hkY hinitY
      (X.room_calling (g := g) (R' := (headSpec ws rm).room) hsize hmY hcY hframes (by rw [hlY]; omega) h4 h5) h1
  obtain ⟨mid, hmid⟩ := h.above
  have hfr : (U.setTop g).frames = (.java g :: mid) ++ below := by rw [State.frames_setTop' g h.top, hmid]; rfl
  obtain ⟨o, s₂, hsteps, -, hend, hq⟩ := Steps.callFree hM p X.admits X.cas X.clock (acts := []) hfr happ hPc trivial
  have hq' : vx_Q Qc XC mc ms free a (U.calling g mk a) o s₂ := hq
  rw [State.frames_setTop' g h.top] at hend
  obtain ⟨g₀, hg0⟩ := Option.isSome_iff_exists.mp h.top
  obtain ⟨r, hr⟩ := State.topJava?_eq_some.mp hg0
  have hr' : (({ U with heap := s₂.heap, slotsUsed := s₂.slotsUsed } : State).setVm s₂.vm).frames = .java g₀ :: r := hr
  rcases hq' with ⟨hqc, L, hfe, hL⟩ | ⟨q, rfl, E, ce, L, hx, hce, hcv, hcl, hW₂, hsm, hL⟩
  · obtain ⟨⟨v, rfl⟩, hW₂, e2, q2, q3, q4, q5, q6⟩ := id hfe
    have e3 : s₂ = ({ (U.calling g mk a).setFrames s₂.frames with heap := s₂.heap, slotsUsed := s₂.slotsUsed } : State).setVm s₂.vm := by
      have : s₂ = ({ s₂ with vm := (U.calling g mk a).vm } : State).setVm s₂.vm := rfl
      rw [e2] at this
      exact this
    obtain ⟨c₂, i₂, len₂, hc₂, hd₂, hf₂⟩ := hend
    have hW' : U.WarmedH s₂.vm := hW₂
    have hcc : c₂ = c := by
      have h1 : s₂.code? g.method = U.code? g.method := by
        rw [State.code?_eq, State.code?_eq, hW'.alike.method?]
      exact Option.some.inj (hc₂.symm.trans (h1.trans h.code))
    subst hcc
    have hlen : len₂ = len := by rw [hdg] at hd₂; cases hd₂; rfl
    subst hlen
    have hs₂ : s₂ = (({ U with heap := s₂.heap, slotsUsed := s₂.slotsUsed } : State).setVm s₂.vm).setTop { g with pc := g.pc + len₂, stack := v.toList ++ g.stack } := by
      refine e3.trans ?_
      rw [hf₂, State.calling_eq h.top, State.setFrames_setFrames, State.setTop_of_frames _ hr', hr]
      rfl
    have hsame : U.sameButNew ({ U with heap := s₂.heap, slotsUsed := s₂.slotsUsed } : State) L mc ms := by
      refine ⟨?_, q2, q3, q4, q5, q6⟩
      obtain ⟨t, ht, -⟩ := State.frames_cons hr
      show ({ U with heap := s₂.heap, slotsUsed := s₂.slotsUsed } : State) = { U.setFrames U.frames with heap := s₂.heap, slotsUsed := s₂.slotsUsed }
      rw [State.setFrames_self ht]
    subst hg
    refine Or.inl ⟨v, ⟨(({ U with heap := s₂.heap, slotsUsed := s₂.slotsUsed } : State).setVm s₂.vm), Ls ++ L, c0 + mc, s0 + ms⟩,
      ⟨X.admits, X.cas, X.clock, X.frames, X.room, X.hears, X.method, X.code, (X.here.setHeapUsed s₂.heap s₂.slotsUsed).setVm hW'.alike, X.tail, State.WarmedH.trans X.warmed hW', X.limits, X.bytes, X.same.trans (hsame.setVm s.vm)⟩,
      ⟨g, mk, s₂, L, rfl, rfl, hqc, rfl, hL, rfl, rfl⟩, ?_⟩
    show Steps p.tables e below _ ((({ U with heap := s₂.heap, slotsUsed := s₂.slotsUsed } : State).setVm s₂.vm).setTop { g with pc := g.pc + len₂, stack := v.toList ++ g.stack })
    rw [← hs₂]
    exact hsteps
  · obtain ⟨e2, q2, q3, q4, q5, q6⟩ := id hsm
    have e3 : s₂ = ({ (U.calling g mk a).setFrames s₂.frames with heap := s₂.heap, slotsUsed := s₂.slotsUsed } : State).setVm s₂.vm := by
      have : s₂ = ({ s₂ with vm := (U.calling g mk a).vm } : State).setVm s₂.vm := rfl
      rw [e2] at this
      exact this
    have hf₂ : s₂.frames = .throwing q :: .java g :: U.frames.tail := hend
    have hW' : U.WarmedH s₂.vm := hW₂
    have hs₂ : s₂ = ((({ U with heap := s₂.heap, slotsUsed := s₂.slotsUsed } : State).setVm s₂.vm).setTop g).pushFrame (.throwing q) := by
      refine e3.trans ?_
      rw [hf₂, State.calling_eq h.top, State.setFrames_setFrames, State.pushFrame, State.frames_setTop _ hr', State.setTop_of_frames _ hr', State.setFrames_setFrames, hr]
      rfl
    have hsame : U.sameButNew ({ U with heap := s₂.heap, slotsUsed := s₂.slotsUsed } : State) L mc ms := by
      refine ⟨?_, q2, q3, q4, q5, q6⟩
      obtain ⟨t, ht, -⟩ := State.frames_cons hr
      show ({ U with heap := s₂.heap, slotsUsed := s₂.slotsUsed } : State) = { U.setFrames U.frames with heap := s₂.heap, slotsUsed := s₂.slotsUsed }
      rw [State.setFrames_self ht]
    subst hg
    refine Or.inr ⟨q, ⟨(({ U with heap := s₂.heap, slotsUsed := s₂.slotsUsed } : State).setVm s₂.vm), Ls ++ L, c0 + mc, s0 + ms⟩,
      ⟨X.admits, X.cas, X.clock, X.frames, X.room, X.hears, X.method, X.code, (X.here.setHeapUsed s₂.heap s₂.slotsUsed).setVm hW'.alike, X.tail, State.WarmedH.trans X.warmed hW', X.limits, X.bytes, X.same.trans (hsame.setVm s.vm)⟩,
      ⟨g, mk, s₂, L, E, ce, rfl, rfl, hx, hce, hcv, hcl, rfl, hL, rfl, rfl⟩, ?_⟩
    show Steps p.tables e below _ (((({ U with heap := s₂.heap, slotsUsed := s₂.slotsUsed } : State).setVm s₂.vm).setTop g).pushFrame (.throwing q))
    rw [← hs₂]
    exact hsteps
end
variable {p : Program} {l : Launch} {e : Env} {R : Room} {s : State} {m : MethodId} {args : Array Value} {below : List Frame} {meth : Method} {c : Code} {T : State} {H : Heap} {locs : List Loc} {cells slots : Nat}
theorem vx_callVX (X : Stand p l e R s m args below meth c T locs cells slots) (hexec : p.tables.exec = Jvm.exec) {own C : String} {index : Nat} {y : MethodName} {bytes : ByteArray} {maxL : Nat} {ret : Option FieldType} {hh : List (Nat × Nat × Nat × Nat)}
    (hown : s.vm.findClass own = some m.cls) (hlink : (Cond.methodLink own index y).before args s = true) (hinst : (Cond.instanceMethod y).before args s = true) (hsel : (Cond.selects C y y).before args s = true)
    (hcode : (Cond.codeWith y bytes maxL ret hh).before args s = true) (hy : y.cls ≠ "java/lang/invoke/MethodHandle" ∧ y.cls ≠ "java/lang/invoke/VarHandle")
    {W9 : Nat} {Pre : Pt → Array Value → Prop} {Post : Pt → Array Value → Option Value → Pt → Prop} {PostX : Pt → Array Value → Addr → Pt → Prop} (hK : vx_Back l R p e below s args y 3 W9 Pre Post PostX)
    {b : Addr} {cellB : Cell} (hcell : T.heap[b]? = some cellB) (hobj : cellB.vm.isStatics = false) (hcls : s.vm.findClass C = some cellB.cls)
    {g : JFrame} (hg : g.method = m) (hsize : g.locals.size = c.maxLocals) {argsL rest : List Value} (hlen : ∀ sig, parseMethodDescriptor y.desc = some sig → argsL.length = sig.parameters.length)
    (hstack : g.stack = argsL.reverse ++ .ref b :: rest) (hW : 2 * g.monitorRoom + (rest.map fun v => v.category).sum ≤ W9) (hdg : decode c.code g.pc = .ok (.invokevirtual index, 3))
    (hpre : ∀ vm₁, s.WarmedH vm₁ → Pre ⟨T.setVm vm₁, locs, cells, slots⟩ (Value.ref b :: argsL).toArray) :
    (∃ (v : Option Value) (vm₁ : Vm) (B : Pt), s.WarmedH vm₁ ∧ Stand p l e R s m args below meth c B.U B.locs B.cells B.slots ∧ Post ⟨T.setVm vm₁, locs, cells, slots⟩ (Value.ref b :: argsL).toArray v B ∧
      ∀ target, Steps p.tables e below (B.U.setTop { g with pc := g.pc + 3, stack := v.toList ++ rest }) target → Steps p.tables e below (T.setTop g) target) ∨
    (∃ (q : Addr) (vm₁ : Vm) (B : Pt), s.WarmedH vm₁ ∧ Stand p l e R s m args below meth c B.U B.locs B.cells B.slots ∧ PostX ⟨T.setVm vm₁, locs, cells, slots⟩ (Value.ref b :: argsL).toArray q B ∧
      Steps p.tables e below (T.setTop g) ((B.U.setTop { g with stack := rest }).pushFrame (.throwing q))) := by
  obtain ⟨mk, methM, hnamed, hmethM, hstM, habM⟩ := Cond.instanceMethod_spec hinst
  obtain ⟨m8, methM', cM, hn8, hmethM', -, -, -, -, -, -, hsigM⟩ := Cond.codeWith_spec hcode
  cases Option.some.inj (hn8.symm.trans hnamed)
  cases hmethM.symm.trans hmethM'
  obtain ⟨c2, r2, m2, q1, q2, q3, q4, kP, hkP, hkPi⟩ := Cond.selects_spec hsel
  cases hcls.symm.trans q1
  cases (State.methodFound?_of_named hnamed hy).symm.trans q2
  cases hnamed.symm.trans q3
  have hselP : selectMethod e.platform s.vm cellB.cls mk = .method mk := by rw [Launch.admits_selectMethod X.admits]; exact q4
  obtain ⟨vm₁, X₁, hstep₁⟩ := X.invokevirtual hexec hown hlink hnamed hmethM hstM hkP hkPi hy (a := b) (cell := cellB) hcell
    (fun z h => by rw [h] at hobj; cases hobj) hselP hmethM habM hkP hkPi (g := g) hg (argsL := argsL) (rest := rest) (hlen _ hsigM) hstack hdg
  rcases hK m meth c ⟨T.setVm vm₁, locs, cells, slots⟩ { g with stack := rest } (.invokevirtual index) mk (Value.ref b :: argsL).toArray X₁ hg hsize hdg hW (X₁.named hnamed) (hpre vm₁ X₁.warmed) with ⟨v, B, X', hpost, hsteps⟩ | ⟨q, B, X', hpost, hsteps⟩
  · exact Or.inl ⟨v, vm₁, B, X₁.warmed, X', hpost, fun target h => hstep₁ _ fun acts => by rw [doInvoke_state]; exact hsteps.trans h⟩
  · exact Or.inr ⟨q, vm₁, B, X₁.warmed, X', hpost, hstep₁ _ fun acts => by rw [doInvoke_state]; exact hsteps⟩
theorem vx_callSX (X : Stand p l e R s m args below meth c T locs cells slots) (hexec : p.tables.exec = Jvm.exec) {own : String} {index : Nat} {y : MethodName} {bytes : ByteArray} {maxL : Nat} {ret : Option FieldType} {hh : List (Nat × Nat × Nat × Nat)}
    (hown : s.vm.findClass own = some m.cls) (hlink : (Cond.methodLink own index y).before args s = true) (hstat : (Cond.static y).before args s = true) (hinit : (Cond.initialized y.cls).before args s = true)
    (hcode : (Cond.codeWith y bytes maxL ret hh).before args s = true) (hy : y.cls ≠ "java/lang/invoke/MethodHandle" ∧ y.cls ≠ "java/lang/invoke/VarHandle")
    {W9 : Nat} {Pre : Pt → Array Value → Prop} {Post : Pt → Array Value → Option Value → Pt → Prop} {PostX : Pt → Array Value → Addr → Pt → Prop} (hK : vx_Back l R p e below s args y 3 W9 Pre Post PostX)
    {g : JFrame} (hg : g.method = m) (hsize : g.locals.size = c.maxLocals) {argsL rest : List Value} (hlen : ∀ sig, parseMethodDescriptor y.desc = some sig → argsL.length = sig.parameters.length)
    (hstack : g.stack = argsL.reverse ++ rest) (hW : 2 * g.monitorRoom + (rest.map fun v => v.category).sum ≤ W9) (hdg : decode c.code g.pc = .ok (.invokestatic index, 3))
    (hpre : ∀ vm₁, s.WarmedH vm₁ → Pre ⟨T.setVm vm₁, locs, cells, slots⟩ argsL.toArray) :
    (∃ (v : Option Value) (vm₁ : Vm) (B : Pt), s.WarmedH vm₁ ∧ Stand p l e R s m args below meth c B.U B.locs B.cells B.slots ∧ Post ⟨T.setVm vm₁, locs, cells, slots⟩ argsL.toArray v B ∧
      ∀ target, Steps p.tables e below (B.U.setTop { g with pc := g.pc + 3, stack := v.toList ++ rest }) target → Steps p.tables e below (T.setTop g) target) ∨
    (∃ (q : Addr) (vm₁ : Vm) (B : Pt), s.WarmedH vm₁ ∧ Stand p l e R s m args below meth c B.U B.locs B.cells B.slots ∧ PostX ⟨T.setVm vm₁, locs, cells, slots⟩ argsL.toArray q B ∧
      Steps p.tables e below (T.setTop g) ((B.U.setTop { g with stack := rest }).pushFrame (.throwing q))) := by
  obtain ⟨mk, methM, cM, hnamed, hmethM, -, -, -, -, -, -, hsigM⟩ := Cond.codeWith_spec hcode
  have hstatic : methM.isStatic = true := Cond.static_spec hnamed hmethM hstat
  obtain ⟨kP, hkP, -⟩ := className_of_methodNamed hnamed
  have hinitP : kP.init = .initialized := Cond.initialized_spec (findClass_of_methodNamed hnamed) hkP hinit
  obtain ⟨vm₁, X₁, hstep₁⟩ := X.invokestatic hexec hown hlink hnamed hmethM hstatic hkP hinitP hy (g := g) hg (argsL := argsL) (rest := rest) (hlen _ hsigM) hstack hdg
  rcases hK m meth c ⟨T.setVm vm₁, locs, cells, slots⟩ { g with stack := rest } (.invokestatic index) mk argsL.toArray X₁ hg hsize hdg hW (X₁.named hnamed) (hpre vm₁ X₁.warmed) with ⟨v, B, X', hpost, hsteps⟩ | ⟨q, B, X', hpost, hsteps⟩
  · exact Or.inl ⟨v, vm₁, B, X₁.warmed, X', hpost, fun target h => hstep₁ _ fun acts => by rw [doInvoke_state]; exact hsteps.trans h⟩
  · exact Or.inr ⟨q, vm₁, B, X₁.warmed, X', hpost, hstep₁ _ fun acts => by rw [doInvoke_state]; exact hsteps⟩
theorem vx_callVW (X : Stand p l e R s m args below meth c T locs cells slots) (hexec : p.tables.exec = Jvm.exec) {own C : String} {index : Nat} {y : MethodName} {bytes : ByteArray} {maxL : Nat} {ret : Option FieldType} {hh : List (Nat × Nat × Nat × Nat)}
    (hown : s.vm.findClass own = some m.cls) (hlink : (Cond.methodLink own index y).before args s = true) (hinst : (Cond.instanceMethod y).before args s = true) (hsel : (Cond.selects C y y).before args s = true)
    (hcode : (Cond.codeWith y bytes maxL ret hh).before args s = true) (hy : y.cls ≠ "java/lang/invoke/MethodHandle" ∧ y.cls ≠ "java/lang/invoke/VarHandle")
    {W9 : Nat} {Pre : Pt → Array Value → Prop} {Post : Pt → Array Value → Option Value → Pt → Prop} (hK : Back l R p e below s args y 3 W9 Pre Post)
    {b : Addr} {cellB : Cell} (hcell : T.heap[b]? = some cellB) (hobj : cellB.vm.isStatics = false) (hcls : s.vm.findClass C = some cellB.cls)
    {g : JFrame} (hg : g.method = m) (hsize : g.locals.size = c.maxLocals) {argsL rest : List Value} (hlen : ∀ sig, parseMethodDescriptor y.desc = some sig → argsL.length = sig.parameters.length)
    (hstack : g.stack = argsL.reverse ++ .ref b :: rest) (hW : 2 * g.monitorRoom + (rest.map fun v => v.category).sum ≤ W9) (hdg : decode c.code g.pc = .ok (.invokevirtual index, 3))
    (hpre : ∀ vm₁, s.WarmedH vm₁ → Pre ⟨T.setVm vm₁, locs, cells, slots⟩ (Value.ref b :: argsL).toArray) :
    ∃ (v : Option Value) (vm₁ : Vm) (B : Pt), s.WarmedH vm₁ ∧ Stand p l e R s m args below meth c B.U B.locs B.cells B.slots ∧ Post ⟨T.setVm vm₁, locs, cells, slots⟩ (Value.ref b :: argsL).toArray v B ∧
      ∀ target, Steps p.tables e below (B.U.setTop { g with pc := g.pc + 3, stack := v.toList ++ rest }) target → Steps p.tables e below (T.setTop g) target := by
  obtain ⟨mk, methM, hnamed, hmethM, hstM, habM⟩ := Cond.instanceMethod_spec hinst
  obtain ⟨m8, methM', cM, hn8, hmethM', -, -, -, -, -, -, hsigM⟩ := Cond.codeWith_spec hcode
  cases Option.some.inj (hn8.symm.trans hnamed)
  cases hmethM.symm.trans hmethM'
  obtain ⟨c2, r2, m2, q1, q2, q3, q4, kP, hkP, hkPi⟩ := Cond.selects_spec hsel
  cases hcls.symm.trans q1
  cases (State.methodFound?_of_named hnamed hy).symm.trans q2
  cases hnamed.symm.trans q3
  have hselP : selectMethod e.platform s.vm cellB.cls mk = .method mk := by rw [Launch.admits_selectMethod X.admits]; exact q4
  obtain ⟨vm₁, X₁, hstep₁⟩ := X.invokevirtual hexec hown hlink hnamed hmethM hstM hkP hkPi hy (a := b) (cell := cellB) hcell
    (fun z h => by rw [h] at hobj; cases hobj) hselP hmethM habM hkP hkPi (g := g) hg (argsL := argsL) (rest := rest) (hlen _ hsigM) hstack hdg
  obtain ⟨v, B, X', hpost, hsteps⟩ := hK m meth c ⟨T.setVm vm₁, locs, cells, slots⟩ { g with stack := rest } (.invokevirtual index) mk (Value.ref b :: argsL).toArray X₁ hg hsize hdg hW (X₁.named hnamed) (hpre vm₁ X₁.warmed)
  exact ⟨v, vm₁, B, X₁.warmed, X', hpost, fun target h => hstep₁ _ fun acts => by rw [doInvoke_state]; exact hsteps.trans h⟩
abbrev vx_CVW (R : Room) (s : State) (args : Array Value) (own C : String) (index : Nat) (y : MethodName) (bytes : ByteArray) (maxL : Nat) (ret : Option FieldType) (hh : List (Nat × Nat × Nat × Nat)) (ws : List Cond) (rm : Room) (mc ms n : Nat) : Prop :=
  (rm.cells = mc ∧ rm.slots = ms ∧ rm.frames + 1 ≤ R.frames ∧ 8 + (maxL + 11) + rm.locals ≤ R.locals ∧ (∀ w ∈ ws, ∀ (a' : Array Value) (U : State), s.WarmedH U.vm → w.before a' U = true) ∧ Cond.codeWith y bytes maxL ret hh ∈ ws) ∧
  (Cond.codeWith y bytes maxL ret hh).before args s = true ∧ (Cond.initialized y.cls).before args s = true ∧ (y.cls ≠ "java/lang/invoke/MethodHandle" ∧ y.cls ≠ "java/lang/invoke/VarHandle") ∧
  (∀ sig, parseMethodDescriptor y.desc = some sig → n = sig.parameters.length) ∧ (Cond.methodLink own index y).before args s = true ∧ (Cond.instanceMethod y).before args s = true ∧ (Cond.selects C y y).before args s = true
theorem vx_cwVW {own C : String} {index maxL mc ms : Nat} {y : MethodName} {bytes : ByteArray} {ret : Option FieldType} {hh : List (Nat × Nat × Nat × Nat)} {Ts ws ws' : List Cond} {rm : Room} (n : Nat) (ht : ∀ w ∈ Ts, w.before args s = true) (hT : GoodIn Ts (wsV own index C y ws)) (hw : ws = Cond.codeWith y bytes maxL ret hh :: ws') (hrc : rm.cells = mc) (hrs : rm.slots = ms)
    (hd : y.cls = C ∧ y.cls ≠ "java/lang/invoke/MethodHandle" ∧ y.cls ≠ "java/lang/invoke/VarHandle" ∧ (parseMethodDescriptor y.desc).map (fun d => d.parameters.length) = some n) (hR : rm.frames + 1 ≤ R.frames ∧ 8 + (maxL + 11) + rm.locals ≤ R.locals) :
    vx_CVW R s args own C index y bytes maxL ret hh ws rm mc ms n := by
  obtain ⟨hC, hd⟩ := hd
  subst hC
  have ok : ∀ w ∈ wsV own index y.cls y ws, w.before args s = true := fun w h => ht w (hT w h).1
  have hG : GoodIn Ts ws := fun w h => hT w (by unfold wsV; exact List.mem_append_right _ h)
  have hc : Cond.codeWith y bytes maxL ret hh ∈ ws := by rw [hw]; exact List.mem_cons_self
  refine ⟨⟨hrc, hrs, hR.1, hR.2, pay_in ht hG, hc⟩, ht _ (hG _ hc).1, ok _ (by simp [wsV]), ⟨hd.1, hd.2.1⟩, fun sig h => ?_, ok _ (by simp [wsV]), ok _ (by simp [wsV]), ok _ (by simp [wsV])⟩
  have h2 := hd.2.2
  rw [h] at h2
  exact (Option.some.inj h2).symm
theorem vx_runVW {y : MethodName} {bytes cc : ByteArray} {maxL nL mc ms n index : Nat} {ret : Option FieldType} {hh : List (Nat × Nat × Nat × Nat)} {ws : List Cond} {rm : Room} {Pc : Array Value → State → Prop} {Qc : Array Value → State → Outcome → State → Prop} {free : Addr → Prop} {Ts : List Cond} {own C : String} {b : Addr} {As rest : List Value} {g : JFrame}
    (S : CallFix p m c cc nL s args Ts own) (hM : Met l y ws rm Pc Qc mc ms free) (cw : vx_CVW R s args own C index y bytes maxL ret hh ws rm mc ms n) (hp : PreV s H C b Pc As)
    (hg : g.method = m) (hn : As.length = n) (hsize : g.locals.size = nL) (hstack : g.stack = As.reverse ++ .ref b :: rest) (hW : 2 * g.monitorRoom + (rest.map fun v => v.category).sum ≤ 8) (hdg : decode cc g.pc = .ok (.invokevirtual index, 3)) (hf : cells + mc ≤ R.cells ∧ slots + ms ≤ R.slots) :
    va_Run p l e R s m args below meth c H locs cells slots mc ms g rest (Qc (Value.ref b :: As).toArray) free := by
  obtain ⟨⟨hrc, hrs, hfr, hlo, hws, hcw⟩, hcode, hini, hy, hlen, hl, hin, hse⟩ := cw
  have hK : Back l R p e below s args y 3 8 (PreOf R mc ms Pc) (PostOf Qc mc ms free) := va_backW (hh := hh) (bytes := bytes) (maxL := maxL) (ret := ret) hM hp.1 hrc hrs hfr hlo hws hcw (fun a' U hW => word_at hW (Or.inl (by first | rfl | simp [Cond.onTables, Cond.keeps, Cond.steady])) hini)
  obtain ⟨hx, hb, hml, ho, -⟩ := S
  obtain ⟨-, ⟨cellB, hcB, hoB, hclB⟩, hPc⟩ := hp
  intro T hT X
  obtain ⟨v, vm₁, ⟨U', l2, c2, s2⟩, hW₁, X', ⟨g', mk, t, L, e1, e2, hq, h1, hL, h2, h3⟩, st⟩ := vx_callVW X hx (C := C) (hh := hh) (bytes := bytes) (maxL := maxL) (ret := ret) ho hl hin hse hcode hy hK (by rw [hT]; exact hcB) hoB hclB hg (hsize.trans hml.symm) (argsL := As) (rest := rest) (fun sig h => hn.trans (hlen sig h)) hstack hW (by rw [hb]; exact hdg)
    (fun vm₁ hW₁ => ⟨hf.1, hf.2, hPc (T.setVm vm₁) hT hW₁⟩)
  dsimp only [Pt.U, Pt.locs, Pt.cells, Pt.slots] at X' e1 e2 h1 h2 h3 st
  subst h1; subst h2; subst h3
  exact ⟨v, (T.setVm vm₁).calling g' mk (Value.ref b :: As).toArray, t, U', L, hT, X', hL, e1, e2, hq, st⟩
section
variable {y : MethodName} {bytes cc : ByteArray} {maxL nL mc ms n index : Nat} {ret : Option FieldType} {ws : List Cond} {rm : Room} {Pc : Array Value → State → Prop} {Qc : Array Value → State → Outcome → State → Prop} {XC : String → State → State → Prop} {free : Addr → Prop} {Ts : List Cond} {own C : String} {b : Addr} {As rest : List Value} {g : JFrame}
theorem vx_runVX {hh : List (Nat × Nat × Nat × Nat)} (S : CallFix p m c cc nL s args Ts own) (hM : vx_Met l y ws rm Pc Qc XC mc ms free) (cw : vx_CVW R s args own C index y bytes maxL ret hh ws rm mc ms n) (hp : PreV s H C b Pc As)
    (hg : g.method = m) (hn : As.length = n) (hsize : g.locals.size = nL) (hstack : g.stack = As.reverse ++ .ref b :: rest) (hW : 2 * g.monitorRoom + (rest.map fun v => v.category).sum ≤ 8) (hdg : decode cc g.pc = .ok (.invokevirtual index, 3)) (hf : cells + mc ≤ R.cells ∧ slots + ms ≤ R.slots) :
    vx_Run p l e R s m args below meth c H locs cells slots mc ms g rest (Qc (Value.ref b :: As).toArray) XC free := by
  obtain ⟨⟨hrc, hrs, hfr, hlo, hws, hcw⟩, hcode, hini, hy, hlen, hl, hin, hse⟩ := cw
  have hK : vx_Back l R p e below s args y 3 8 (PreOf R mc ms Pc) (PostOf Qc mc ms free) (vx_Post XC mc ms free) := vx_backW (hh := hh) (bytes := bytes) (maxL := maxL) (ret := ret) hM hp.1 hrc hrs hfr hlo hws hcw (fun a' U hW => word_at hW (Or.inl (by first | rfl | simp [Cond.onTables, Cond.keeps, Cond.steady])) hini)
  obtain ⟨hx, hb, hml, ho, -⟩ := S
  obtain ⟨-, ⟨cellB, hcB, hoB, hclB⟩, hPc⟩ := hp
  intro T hT X
  rcases vx_callVX X hx (C := C) (hh := hh) (bytes := bytes) (maxL := maxL) (ret := ret) ho hl hin hse hcode hy hK (by rw [hT]; exact hcB) hoB hclB hg (hsize.trans hml.symm) (argsL := As) (rest := rest) (fun sig h => hn.trans (hlen sig h)) hstack hW (by rw [hb]; exact hdg)
    (fun vm₁ hW₁ => ⟨hf.1, hf.2, hPc (T.setVm vm₁) hT hW₁⟩) with ⟨v, vm₁, ⟨U', l2, c2, s2⟩, hW₁, X', ⟨g', mk, t, L, e1, e2, hq, h1, hL, h2, h3⟩, st⟩ | ⟨q, vm₁, ⟨U', l2, c2, s2⟩, hW₁, X', ⟨g', mk, t, L, E, ce, e1, e2, hq, hce, hcv, hcl, h1, hL, h2, h3⟩, st⟩
  · dsimp only [Pt.U, Pt.locs, Pt.cells, Pt.slots] at X' e1 e2 h1 h2 h3 st
    subst h1; subst h2; subst h3
    exact Or.inl ⟨v, (T.setVm vm₁).calling g' mk (Value.ref b :: As).toArray, t, U', L, hT, X', hL, e1, e2, hq, st⟩
  · dsimp only [Pt.U, Pt.locs, Pt.cells, Pt.slots] at X' e1 e2 h1 h2 h3 st hcl
    subst h1; subst h2; subst h3
    exact Or.inr ⟨q, (T.setVm vm₁).calling g' mk (Value.ref b :: As).toArray, t, U', L, E, ce, hT, X', hL, e1, e2, hq, hce, hcv, vx_cls hW₁ hcl, st⟩
theorem vx_runSX {hh : List (Nat × Nat × Nat × Nat)} (S : CallFix p m c cc nL s args Ts own) (hM : vx_Met l y ws rm Pc Qc XC mc ms free) (cw : vx_CSW R s args own index y bytes maxL ret hh ws rm mc ms n) (hp : PreS s H Pc As)
    (hg : g.method = m) (hn : As.length = n) (hsize : g.locals.size = nL) (hstack : g.stack = As.reverse ++ rest) (hW : 2 * g.monitorRoom + (rest.map fun v => v.category).sum ≤ 8) (hdg : decode cc g.pc = .ok (.invokestatic index, 3)) (hf : cells + mc ≤ R.cells ∧ slots + ms ≤ R.slots) :
    vx_Run p l e R s m args below meth c H locs cells slots mc ms g rest (Qc As.toArray) XC free := by
  obtain ⟨⟨hrc, hrs, hfr, hlo, hws, hcw⟩, hcode, hini, hy, hlen, hl, hstt⟩ := cw
  have hK : vx_Back l R p e below s args y 3 8 (PreOf R mc ms Pc) (PostOf Qc mc ms free) (vx_Post XC mc ms free) := vx_backW (hh := hh) (bytes := bytes) (maxL := maxL) (ret := ret) hM hp.1 hrc hrs hfr hlo hws hcw (fun a' U hW => word_at hW (Or.inl (by first | rfl | simp [Cond.onTables, Cond.keeps, Cond.steady])) hini)
  obtain ⟨hx, hb, hml, ho, -⟩ := S
  intro T hT X
  rcases vx_callSX X hx (hh := hh) (bytes := bytes) (maxL := maxL) (ret := ret) ho hl hstt hini hcode hy hK hg (hsize.trans hml.symm) (argsL := As) (rest := rest) (fun sig h => hn.trans (hlen sig h)) hstack hW (by rw [hb]; exact hdg)
    (fun vm₁ hW₁ => ⟨hf.1, hf.2, hp.2 (T.setVm vm₁) hT hW₁⟩) with ⟨v, vm₁, ⟨U', l2, c2, s2⟩, hW₁, X', ⟨g', mk, t, L, e1, e2, hq, h1, hL, h2, h3⟩, st⟩ | ⟨q, vm₁, ⟨U', l2, c2, s2⟩, hW₁, X', ⟨g', mk, t, L, E, ce, e1, e2, hq, hce, hcv, hcl, h1, hL, h2, h3⟩, st⟩
  · dsimp only [Pt.U, Pt.locs, Pt.cells, Pt.slots] at X' e1 e2 h1 h2 h3 st
    subst h1; subst h2; subst h3
    exact Or.inl ⟨v, (T.setVm vm₁).calling g' mk As.toArray, t, U', L, hT, X', hL, e1, e2, hq, st⟩
  · dsimp only [Pt.U, Pt.locs, Pt.cells, Pt.slots] at X' e1 e2 h1 h2 h3 st hcl
    subst h1; subst h2; subst h3
    exact Or.inr ⟨q, (T.setVm vm₁).calling g' mk As.toArray, t, U', L, E, ce, hT, X', hL, e1, e2, hq, hce, hcv, vx_cls hW₁ hcl, st⟩
end
end VXH
theorem vx_ofWH {l : Launch} {y : MethodName} {ws ws' : List Cond} {rm : Room} {Pc : Array Value → State → Prop} {Qc : Array Value → State → Outcome → State → Prop} {XC : String → State → State → Prop} {mc ms : Nat} {free : Addr → Prop} {cc : ByteArray} {maxL : Nat} {ret : Option FieldType} {hh : List (Nat × Nat × Nat × Nat)}
    (hy : plainName y.cls = true) (hw : ws = Cond.codeWith y cc maxL ret hh :: ws')
    (body : ∀ p e s m args below meth c s₁, BodyLoose p l y (headSpec ws rm) cc maxL ret e s m args below meth c s₁ → c.maxLocals = maxL → Pc args s →
      W p l e (headSpec ws rm).room s m args below meth c s.heap [] 0 0 (vx_MQ below Qc XC args s mc ms free) (entryFrame m args maxL)) : vx_Met l y ws rm Pc Qc XC mc ms free := by
  refine MetFree.of_bodyS (code := cc) (maxLocals := maxL) (ret := ret) hy ?_ ?_
  · intro args s m h hn
    obtain ⟨m9, meth, c, hn9, h1, h2, h3, h4, -, h5, h6, -⟩ := Cond.codeWith_spec (atoms_spec (ws := ws) h _ (by rw [hw]; exact List.mem_cons_self))
    cases hn.symm.trans hn9
    exact ⟨meth, c, h1, h2, h3, h4, h5, h6⟩
  · intro p e s m args below meth c s₁ B hml hP _
    have hh0 : s₁.heap = s.heap := by rw [B.state]; rfl
    obtain ⟨t, a1, o, b1, b2, b3⟩ := body p e s m args below meth c s₁ B hml hP s₁ hh0 (Stand.of_body B)
    exact ⟨t, o, a1, b1, b2, b3⟩
/-! ===== END ===== -/
end
section
/-! ===== BEGIN printed: names, fields, word lists, decode rows ===== -/
def RX0 : String := "ExamGarden"
def TX0 : u_T := fun k => match k with
  | 0 => ("ExamGarden", "placeCount", "I", false)
  | 1 => ("ExamGarden", "studentCount", "I", false)
  | 2 => ("ExamGarden", "gradedCount", "I", false)
  | 3 => ("ExamGarden", "gradeSum", "I", false)
  | 4 => ("ExamGarden", "examBits", "J", false)
  | 5 => ("ExamGarden", "lowestGrades", "[I", true)
  | 6 => ("ExamGarden", "highestGrades", "[I", true)
  | 7 => ("ExamGarden", "lefts", "[I", true)
  | 8 => ("ExamGarden", "rights", "[I", true)
  | 9 => ("ExamGarden", "weights", "[I", true)
  | 10 => ("ExamGarden", "grades", "[I", true)
  | 11 => ("ExamGarden", "sureGrades", "[I", true)
  | 12 => ("ExamGarden", "hopes", "[I", true)
  | 13 => ("ExamGarden", "hindsights", "[I", true)
  | 14 => ("ExamGarden", "reachedBits", "[J", true)
  | 15 => ("ExamGarden", "standing", "[I", true)
  | 16 => ("ExamGarden", "passedCounts", "[I", true)
  | _ => ("ExamGarden", "passedForks", "[I", true)
def tyX0 : Nat → FieldType := fun k => match k with
  | 0 => .int
  | 1 => .int
  | 2 => .int
  | 3 => .int
  | 4 => .long
  | 5 => .array .int
  | 6 => .array .int
  | 7 => .array .int
  | 8 => .array .int
  | 9 => .array .int
  | 10 => .array .int
  | 11 => .array .int
  | 12 => .array .int
  | 13 => .array .int
  | 14 => .array .long
  | 15 => .array .int
  | 16 => .array .int
  | _ => .array .int
abbrev wsX00 : List Cond := u_ws RX0 TX0 18
theorem nmX0 : ∀ a, a < 18 → ∀ b, b < 18 → a ≠ b → (TX0 a).2.1 ≠ (TX0 b).2.1 := by decide +kernel
theorem tyX0_ok : ∀ k, k < 18 → parseFieldDescriptor (TX0 k).2.2.1 = some (tyX0 k) := by decide +kernel
abbrev cX0_init : ByteArray := prog_1_method_1_code
def yX0_init : MethodName := ⟨RX0, "<init>", "()V"⟩
abbrev cX0_addExam : ByteArray := prog_1_method_2_code
def yX0_addExam : MethodName := ⟨RX0, "addExam", "(II)I"⟩
abbrev cX0_addFork : ByteArray := prog_1_method_3_code
def yX0_addFork : MethodName := ⟨RX0, "addFork", "(III)I"⟩
abbrev cX0_grade : ByteArray := prog_1_method_4_code
def yX0_grade : MethodName := ⟨RX0, "grade", "(II)I"⟩
abbrev cX0_weigh : ByteArray := prog_1_method_5_code
def yX0_weigh : MethodName := ⟨RX0, "weigh", "(II)I"⟩
abbrev cX0_enroll : ByteArray := prog_1_method_6_code
def yX0_enroll : MethodName := ⟨RX0, "enroll", "(I)I"⟩
abbrev cX0_turn : ByteArray := prog_1_method_7_code
def yX0_turn : MethodName := ⟨RX0, "turn", "(IZ)I"⟩
abbrev cX0_goBack : ByteArray := prog_1_method_8_code
def yX0_goBack : MethodName := ⟨RX0, "goBack", "(I)I"⟩
abbrev cX0_follow : ByteArray := prog_1_method_9_code
def yX0_follow : MethodName := ⟨RX0, "follow", "(I)I"⟩
abbrev cX0_places : ByteArray := prog_1_method_10_code
def yX0_places : MethodName := ⟨RX0, "places", "()I"⟩
abbrev cX0_exams : ByteArray := prog_1_method_11_code
def yX0_exams : MethodName := ⟨RX0, "exams", "()I"⟩
abbrev cX0_graded : ByteArray := prog_1_method_12_code
def yX0_graded : MethodName := ⟨RX0, "graded", "()I"⟩
abbrev cX0_students : ByteArray := prog_1_method_13_code
def yX0_students : MethodName := ⟨RX0, "students", "()I"⟩
abbrev cX0_atExams : ByteArray := prog_1_method_14_code
def yX0_atExams : MethodName := ⟨RX0, "atExams", "()I"⟩
abbrev cX0_isExam : ByteArray := prog_1_method_15_code
def yX0_isExam : MethodName := ⟨RX0, "isExam", "(I)Z"⟩
abbrev cX0_isGraded : ByteArray := prog_1_method_16_code
def yX0_isGraded : MethodName := ⟨RX0, "isGraded", "(I)Z"⟩
abbrev cX0_gradeOf : ByteArray := prog_1_method_17_code
def yX0_gradeOf : MethodName := ⟨RX0, "gradeOf", "(I)I"⟩
abbrev cX0_leftOf : ByteArray := prog_1_method_18_code
def yX0_leftOf : MethodName := ⟨RX0, "leftOf", "(I)I"⟩
abbrev cX0_rightOf : ByteArray := prog_1_method_19_code
def yX0_rightOf : MethodName := ⟨RX0, "rightOf", "(I)I"⟩
abbrev cX0_weightOf : ByteArray := prog_1_method_20_code
def yX0_weightOf : MethodName := ⟨RX0, "weightOf", "(I)I"⟩
abbrev cX0_placeOf : ByteArray := prog_1_method_21_code
def yX0_placeOf : MethodName := ⟨RX0, "placeOf", "(I)I"⟩
abbrev cX0_passedBy : ByteArray := prog_1_method_22_code
def yX0_passedBy : MethodName := ⟨RX0, "passedBy", "(I)I"⟩
abbrev cX0_sureGrade : ByteArray := prog_1_method_23_code
def yX0_sureGrade : MethodName := ⟨RX0, "sureGrade", "(I)I"⟩
abbrev cX0_hope : ByteArray := prog_1_method_24_code
def yX0_hope : MethodName := ⟨RX0, "hope", "(I)I"⟩
abbrev cX0_reaches : ByteArray := prog_1_method_25_code
def yX0_reaches : MethodName := ⟨RX0, "reaches", "(II)Z"⟩
abbrev cX0_examsFrom : ByteArray := prog_1_method_26_code
def yX0_examsFrom : MethodName := ⟨RX0, "examsFrom", "(I)I"⟩
abbrev cX0_risk : ByteArray := prog_1_method_27_code
def yX0_risk : MethodName := ⟨RX0, "risk", "(IZ)I"⟩
abbrev cX0_planTurnsRight : ByteArray := prog_1_method_28_code
def yX0_planTurnsRight : MethodName := ⟨RX0, "planTurnsRight", "(I)Z"⟩
abbrev cX0_planLeadsTo : ByteArray := prog_1_method_29_code
def yX0_planLeadsTo : MethodName := ⟨RX0, "planLeadsTo", "(I)I"⟩
abbrev cX0_riskiestFork : ByteArray := prog_1_method_30_code
def yX0_riskiestFork : MethodName := ⟨RX0, "riskiestFork", "()I"⟩
abbrev cX0_hindsight : ByteArray := prog_1_method_31_code
def yX0_hindsight : MethodName := ⟨RX0, "hindsight", "(I)I"⟩
abbrev cX0_regretOf : ByteArray := prog_1_method_32_code
def yX0_regretOf : MethodName := ⟨RX0, "regretOf", "(I)I"⟩
abbrev cX0_worstFork : ByteArray := prog_1_method_33_code
def yX0_worstFork : MethodName := ⟨RX0, "worstFork", "(I)I"⟩
abbrev cX0_allRegret : ByteArray := prog_1_method_34_code
def yX0_allRegret : MethodName := ⟨RX0, "allRegret", "()I"⟩
abbrev cX0_meanGrade : ByteArray := prog_1_method_35_code
def yX0_meanGrade : MethodName := ⟨RX0, "meanGrade", "()D"⟩
abbrev cX0_digest : ByteArray := prog_1_method_36_code
def yX0_digest : MethodName := ⟨RX0, "digest", "()J"⟩
abbrev cX0_mixPlace : ByteArray := prog_1_method_37_code
def yX0_mixPlace : MethodName := ⟨RX0, "mixPlace", "(JI)J"⟩
abbrev cX0_mix : ByteArray := prog_1_method_38_code
def yX0_mix : MethodName := ⟨RX0, "mix", "(JI)J"⟩
abbrev cX0_requireRoom : ByteArray := prog_1_method_39_code
def yX0_requireRoom : MethodName := ⟨RX0, "requireRoom", "()V"⟩
abbrev cX0_requirePlace : ByteArray := prog_1_method_40_code
def yX0_requirePlace : MethodName := ⟨RX0, "requirePlace", "(I)V"⟩
abbrev cX0_requireExam : ByteArray := prog_1_method_41_code
def yX0_requireExam : MethodName := ⟨RX0, "requireExam", "(I)V"⟩
abbrev cX0_requireFork : ByteArray := prog_1_method_42_code
def yX0_requireFork : MethodName := ⟨RX0, "requireFork", "(I)V"⟩
abbrev cX0_requireWeight : ByteArray := prog_1_method_43_code
def yX0_requireWeight : MethodName := ⟨RX0, "requireWeight", "(I)V"⟩
abbrev cX0_requireStudent : ByteArray := prog_1_method_44_code
def yX0_requireStudent : MethodName := ⟨RX0, "requireStudent", "(I)V"⟩
abbrev cX0_requireGraded : ByteArray := prog_1_method_45_code
def yX0_requireGraded : MethodName := ⟨RX0, "requireGraded", "(I)V"⟩
abbrev cX0_holdsExam : ByteArray := prog_1_method_46_code
def yX0_holdsExam : MethodName := ⟨RX0, "holdsExam", "(I)Z"⟩
abbrev cX0_hasGrade : ByteArray := prog_1_method_47_code
def yX0_hasGrade : MethodName := ⟨RX0, "hasGrade", "(I)Z"⟩
abbrev cX0_settleExam : ByteArray := prog_1_method_48_code
def yX0_settleExam : MethodName := ⟨RX0, "settleExam", "(I)V"⟩
abbrev cX0_settleFork : ByteArray := prog_1_method_49_code
def yX0_settleFork : MethodName := ⟨RX0, "settleFork", "(I)V"⟩
abbrev cX0_settleGreater : ByteArray := prog_1_method_50_code
def yX0_settleGreater : MethodName := ⟨RX0, "settleGreater", "([II)V"⟩
abbrev cX0_settleForksAfter : ByteArray := prog_1_method_51_code
def yX0_settleForksAfter : MethodName := ⟨RX0, "settleForksAfter", "(I)V"⟩
abbrev cX0_pathFrom : ByteArray := prog_1_method_52_code
def yX0_pathFrom : MethodName := ⟨RX0, "pathFrom", "(IZ)I"⟩
abbrev cX0_riskOfPath : ByteArray := prog_1_method_53_code
def yX0_riskOfPath : MethodName := ⟨RX0, "riskOfPath", "(IZ)I"⟩
abbrev cX0_plansRight : ByteArray := prog_1_method_54_code
def yX0_plansRight : MethodName := ⟨RX0, "plansRight", "(I)Z"⟩
abbrev cX0_smallerRisk : ByteArray := prog_1_method_55_code
def yX0_smallerRisk : MethodName := ⟨RX0, "smallerRisk", "(I)I"⟩
abbrev cX0_walk : ByteArray := prog_1_method_56_code
def yX0_walk : MethodName := ⟨RX0, "walk", "(IZ)V"⟩
abbrev cX0_passedFork : ByteArray := prog_1_method_57_code
def yX0_passedFork : MethodName := ⟨RX0, "passedFork", "(II)I"⟩
abbrev cX0_regretOfStep : ByteArray := prog_1_method_58_code
def yX0_regretOfStep : MethodName := ⟨RX0, "regretOfStep", "(II)I"⟩
abbrev cX0_regretOfAll : ByteArray := prog_1_method_59_code
def yX0_regretOfAll : MethodName := ⟨RX0, "regretOfAll", "(I)I"⟩
abbrev cX0_at : ByteArray := prog_1_method_60_code
def yX0_at : MethodName := ⟨RX0, "at", "([II)I"⟩
abbrev cX0_put : ByteArray := prog_1_method_61_code
def yX0_put : MethodName := ⟨RX0, "put", "([III)V"⟩
abbrev cX0_bitsAt : ByteArray := prog_1_method_62_code
def yX0_bitsAt : MethodName := ⟨RX0, "bitsAt", "([JI)J"⟩
abbrev cX0_putBits : ByteArray := prog_1_method_63_code
def yX0_putBits : MethodName := ⟨RX0, "putBits", "([JIJ)V"⟩
abbrev cX0_bitOf : ByteArray := prog_1_method_64_code
def yX0_bitOf : MethodName := ⟨RX0, "bitOf", "(I)J"⟩
def RX1 : String := "ExamGardenModel"
def TX1 : u_T := fun k => match k with
  | 0 => ("ExamGardenModel", "thrown", "I", false)
  | 1 => ("ExamGardenModel", "places", "I", false)
  | 2 => ("ExamGardenModel", "students", "I", false)
  | 3 => ("ExamGardenModel", "forks", "[Z", true)
  | 4 => ("ExamGardenModel", "one", "[I", true)
  | 5 => ("ExamGardenModel", "other", "[I", true)
  | 6 => ("ExamGardenModel", "third", "[I", true)
  | 7 => ("ExamGardenModel", "reach", "[J", true)
  | 8 => ("ExamGardenModel", "sure", "[I", true)
  | 9 => ("ExamGardenModel", "hopes", "[I", true)
  | 10 => ("ExamGardenModel", "stands", "[I", true)
  | 11 => ("ExamGardenModel", "passed", "[I", true)
  | _ => ("ExamGardenModel", "ways", "[I", true)
def tyX1 : Nat → FieldType := fun k => match k with
  | 0 => .int
  | 1 => .int
  | 2 => .int
  | 3 => .array .boolean
  | 4 => .array .int
  | 5 => .array .int
  | 6 => .array .int
  | 7 => .array .long
  | 8 => .array .int
  | 9 => .array .int
  | 10 => .array .int
  | 11 => .array .int
  | _ => .array .int
abbrev wsX10 : List Cond := u_ws RX1 TX1 13
theorem nmX1 : ∀ a, a < 13 → ∀ b, b < 13 → a ≠ b → (TX1 a).2.1 ≠ (TX1 b).2.1 := by decide +kernel
theorem tyX1_ok : ∀ k, k < 13 → parseFieldDescriptor (TX1 k).2.2.1 = some (tyX1 k) := by decide +kernel
abbrev cX1_init : ByteArray := prog_3_method_1_code
def yX1_init : MethodName := ⟨RX1, "<init>", "()V"⟩
abbrev cX1_thrown : ByteArray := prog_3_method_2_code
def yX1_thrown : MethodName := ⟨RX1, "thrown", "()I"⟩
abbrev cX1_no : ByteArray := prog_3_method_3_code
def yX1_no : MethodName := ⟨RX1, "no", "(I)I"⟩
abbrev cX1_isNot : ByteArray := prog_3_method_4_code
def yX1_isNot : MethodName := ⟨RX1, "isNot", "(I)Z"⟩
abbrev cX1_ok : ByteArray := prog_3_method_5_code
def yX1_ok : MethodName := ⟨RX1, "ok", "(I)I"⟩
abbrev cX1_isIn : ByteArray := prog_3_method_6_code
def yX1_isIn : MethodName := ⟨RX1, "isIn", "(III)Z"⟩
abbrev cX1_isPlace : ByteArray := prog_3_method_7_code
def yX1_isPlace : MethodName := ⟨RX1, "isPlace", "(I)Z"⟩
abbrev cX1_isExamAt : ByteArray := prog_3_method_8_code
def yX1_isExamAt : MethodName := ⟨RX1, "isExamAt", "(I)Z"⟩
abbrev cX1_isForkAt : ByteArray := prog_3_method_9_code
def yX1_isForkAt : MethodName := ⟨RX1, "isForkAt", "(I)Z"⟩
abbrev cX1_isStudent : ByteArray := prog_3_method_10_code
def yX1_isStudent : MethodName := ⟨RX1, "isStudent", "(I)Z"⟩
abbrev cX1_has : ByteArray := prog_3_method_11_code
def yX1_has : MethodName := ⟨RX1, "has", "(II)Z"⟩
abbrev cX1_table : ByteArray := prog_3_method_12_code
def yX1_table : MethodName := ⟨RX1, "table", "()V"⟩
abbrev cX1_riskOf : ByteArray := prog_3_method_13_code
def yX1_riskOf : MethodName := ⟨RX1, "riskOf", "(IZ)I"⟩
abbrev cX1_turnsRight : ByteArray := prog_3_method_14_code
def yX1_turnsRight : MethodName := ⟨RX1, "turnsRight", "(I)Z"⟩
abbrev cX1_planned : ByteArray := prog_3_method_15_code
def yX1_planned : MethodName := ⟨RX1, "planned", "(I)I"⟩
abbrev cX1_leads : ByteArray := prog_3_method_16_code
def yX1_leads : MethodName := ⟨RX1, "leads", "(I)I"⟩
abbrev cX1_examsOf : ByteArray := prog_3_method_17_code
def yX1_examsOf : MethodName := ⟨RX1, "examsOf", "(I)I"⟩
abbrev cX1_riskiest : ByteArray := prog_3_method_18_code
def yX1_riskiest : MethodName := ⟨RX1, "riskiest", "()I"⟩
abbrev cX1_behind : ByteArray := prog_3_method_19_code
def yX1_behind : MethodName := ⟨RX1, "behind", "(I)I"⟩
abbrev cX1_isKnown : ByteArray := prog_3_method_20_code
def yX1_isKnown : MethodName := ⟨RX1, "isKnown", "(I)Z"⟩
abbrev cX1_regret : ByteArray := prog_3_method_21_code
def yX1_regret : MethodName := ⟨RX1, "regret", "(II)I"⟩
abbrev cX1_regrets : ByteArray := prog_3_method_22_code
def yX1_regrets : MethodName := ⟨RX1, "regrets", "(I)I"⟩
abbrev cX1_allRegrets : ByteArray := prog_3_method_23_code
def yX1_allRegrets : MethodName := ⟨RX1, "allRegrets", "()I"⟩
abbrev cX1_addExam : ByteArray := prog_3_method_24_code
def yX1_addExam : MethodName := ⟨RX1, "addExam", "(II)I"⟩
abbrev cX1_addFork : ByteArray := prog_3_method_25_code
def yX1_addFork : MethodName := ⟨RX1, "addFork", "(III)I"⟩
abbrev cX1_gradedNow : ByteArray := prog_3_method_26_code
def yX1_gradedNow : MethodName := ⟨RX1, "gradedNow", "()I"⟩
abbrev cX1_grade : ByteArray := prog_3_method_27_code
def yX1_grade : MethodName := ⟨RX1, "grade", "(II)I"⟩
abbrev cX1_weigh : ByteArray := prog_3_method_28_code
def yX1_weigh : MethodName := ⟨RX1, "weigh", "(II)I"⟩
abbrev cX1_enroll : ByteArray := prog_3_method_29_code
def yX1_enroll : MethodName := ⟨RX1, "enroll", "(I)I"⟩
abbrev cX1_go : ByteArray := prog_3_method_30_code
def yX1_go : MethodName := ⟨RX1, "go", "(II)V"⟩
abbrev cX1_turn : ByteArray := prog_3_method_31_code
def yX1_turn : MethodName := ⟨RX1, "turn", "(IZ)I"⟩
abbrev cX1_goBack : ByteArray := prog_3_method_32_code
def yX1_goBack : MethodName := ⟨RX1, "goBack", "(I)I"⟩
abbrev cX1_follow : ByteArray := prog_3_method_33_code
def yX1_follow : MethodName := ⟨RX1, "follow", "(I)I"⟩
abbrev cX1_places : ByteArray := prog_3_method_34_code
def yX1_places : MethodName := ⟨RX1, "places", "()I"⟩
abbrev cX1_examsNow : ByteArray := prog_3_method_35_code
def yX1_examsNow : MethodName := ⟨RX1, "examsNow", "()I"⟩
abbrev cX1_exams : ByteArray := prog_3_method_36_code
def yX1_exams : MethodName := ⟨RX1, "exams", "()I"⟩
abbrev cX1_graded : ByteArray := prog_3_method_37_code
def yX1_graded : MethodName := ⟨RX1, "graded", "()I"⟩
abbrev cX1_students : ByteArray := prog_3_method_38_code
def yX1_students : MethodName := ⟨RX1, "students", "()I"⟩
abbrev cX1_atEnds : ByteArray := prog_3_method_39_code
def yX1_atEnds : MethodName := ⟨RX1, "atEnds", "()I"⟩
abbrev cX1_atExams : ByteArray := prog_3_method_40_code
def yX1_atExams : MethodName := ⟨RX1, "atExams", "()I"⟩
abbrev cX1_isExam : ByteArray := prog_3_method_41_code
def yX1_isExam : MethodName := ⟨RX1, "isExam", "(I)Z"⟩
abbrev cX1_isGraded : ByteArray := prog_3_method_42_code
def yX1_isGraded : MethodName := ⟨RX1, "isGraded", "(I)Z"⟩
abbrev cX1_gradeOf : ByteArray := prog_3_method_43_code
def yX1_gradeOf : MethodName := ⟨RX1, "gradeOf", "(I)I"⟩
abbrev cX1_ofFork : ByteArray := prog_3_method_44_code
def yX1_ofFork : MethodName := ⟨RX1, "ofFork", "(I[I)I"⟩
abbrev cX1_leftOf : ByteArray := prog_3_method_45_code
def yX1_leftOf : MethodName := ⟨RX1, "leftOf", "(I)I"⟩
abbrev cX1_rightOf : ByteArray := prog_3_method_46_code
def yX1_rightOf : MethodName := ⟨RX1, "rightOf", "(I)I"⟩
abbrev cX1_weightOf : ByteArray := prog_3_method_47_code
def yX1_weightOf : MethodName := ⟨RX1, "weightOf", "(I)I"⟩
abbrev cX1_ofStudent : ByteArray := prog_3_method_48_code
def yX1_ofStudent : MethodName := ⟨RX1, "ofStudent", "(I[I)I"⟩
abbrev cX1_placeOf : ByteArray := prog_3_method_49_code
def yX1_placeOf : MethodName := ⟨RX1, "placeOf", "(I)I"⟩
abbrev cX1_passedBy : ByteArray := prog_3_method_50_code
def yX1_passedBy : MethodName := ⟨RX1, "passedBy", "(I)I"⟩
abbrev cX1_ofPlace : ByteArray := prog_3_method_51_code
def yX1_ofPlace : MethodName := ⟨RX1, "ofPlace", "(I[I)I"⟩
abbrev cX1_sureGrade : ByteArray := prog_3_method_52_code
def yX1_sureGrade : MethodName := ⟨RX1, "sureGrade", "(I)I"⟩
abbrev cX1_hope : ByteArray := prog_3_method_53_code
def yX1_hope : MethodName := ⟨RX1, "hope", "(I)I"⟩
abbrev cX1_reaches : ByteArray := prog_3_method_54_code
def yX1_reaches : MethodName := ⟨RX1, "reaches", "(II)Z"⟩
abbrev cX1_examsFrom : ByteArray := prog_3_method_55_code
def yX1_examsFrom : MethodName := ⟨RX1, "examsFrom", "(I)I"⟩
abbrev cX1_risk : ByteArray := prog_3_method_56_code
def yX1_risk : MethodName := ⟨RX1, "risk", "(IZ)I"⟩
abbrev cX1_planTurnsRight : ByteArray := prog_3_method_57_code
def yX1_planTurnsRight : MethodName := ⟨RX1, "planTurnsRight", "(I)Z"⟩
abbrev cX1_planLeadsTo : ByteArray := prog_3_method_58_code
def yX1_planLeadsTo : MethodName := ⟨RX1, "planLeadsTo", "(I)I"⟩
abbrev cX1_riskiestFork : ByteArray := prog_3_method_59_code
def yX1_riskiestFork : MethodName := ⟨RX1, "riskiestFork", "()I"⟩
abbrev cX1_hindsight : ByteArray := prog_3_method_60_code
def yX1_hindsight : MethodName := ⟨RX1, "hindsight", "(I)I"⟩
abbrev cX1_regretOf : ByteArray := prog_3_method_61_code
def yX1_regretOf : MethodName := ⟨RX1, "regretOf", "(I)I"⟩
abbrev cX1_worst : ByteArray := prog_3_method_62_code
def yX1_worst : MethodName := ⟨RX1, "worst", "(I)I"⟩
abbrev cX1_worstFork : ByteArray := prog_3_method_63_code
def yX1_worstFork : MethodName := ⟨RX1, "worstFork", "(I)I"⟩
abbrev cX1_allRegret : ByteArray := prog_3_method_64_code
def yX1_allRegret : MethodName := ⟨RX1, "allRegret", "()I"⟩
abbrev cX1_meanGrade : ByteArray := prog_3_method_65_code
def yX1_meanGrade : MethodName := ⟨RX1, "meanGrade", "()D"⟩
abbrev cX1_digest : ByteArray := prog_3_method_66_code
def yX1_digest : MethodName := ⟨RX1, "digest", "()J"⟩
def RJ13 : String := "java/lang/Long"
def TJ13 : u_T := fun k => match k with
  | _ => ("", "", "", false)
def tyJ13 : Nat → FieldType := fun k => match k with
  | _ => .int
abbrev wsJ130 : List Cond := u_ws RJ13 TJ13 0
theorem nmJ13 : ∀ a, a < 0 → ∀ b, b < 0 → a ≠ b → (TJ13 a).2.1 ≠ (TJ13 b).2.1 := by decide +kernel
theorem tyJ13_ok : ∀ k, k < 0 → parseFieldDescriptor (TJ13 k).2.2.1 = some (tyJ13 k) := by decide +kernel
abbrev cJ13_bitCount_95d88 : ByteArray := prog_8_method_50_code
def yJ13_bitCount_95d88 : MethodName := ⟨RJ13, "bitCount", "(J)I"⟩
def RJ9 : String := "java/lang/Math"
def TJ9 : u_T := fun k => match k with
  | _ => ("", "", "", false)
def tyJ9 : Nat → FieldType := fun k => match k with
  | _ => .int
abbrev wsJ90 : List Cond := u_ws RJ9 TJ9 0
theorem nmJ9 : ∀ a, a < 0 → ∀ b, b < 0 → a ≠ b → (TJ9 a).2.1 ≠ (TJ9 b).2.1 := by decide +kernel
theorem tyJ9_ok : ∀ k, k < 0 → parseFieldDescriptor (TJ9 k).2.2.1 = some (tyJ9 k) := by decide +kernel
abbrev cJ9_max_7cf53 : ByteArray := prog_9_method_65_code
def yJ9_max_7cf53 : MethodName := ⟨RJ9, "max", "(II)I"⟩
abbrev cJ9_min_7cf53 : ByteArray := prog_9_method_69_code
def yJ9_min_7cf53 : MethodName := ⟨RJ9, "min", "(II)I"⟩
def RJ0 : String := "java/lang/String"
def TJ0 : u_T := fun k => match k with
  | _ => ("", "", "", false)
def tyJ0 : Nat → FieldType := fun k => match k with
  | _ => .int
abbrev wsJ00 : List Cond := u_ws RJ0 TJ0 0
theorem nmJ0 : ∀ a, a < 0 → ∀ b, b < 0 → a ≠ b → (TJ0 a).2.1 ≠ (TJ0 b).2.1 := by decide +kernel
theorem tyJ0_ok : ∀ k, k < 0 → parseFieldDescriptor (TJ0 k).2.2.1 = some (tyJ0 k) := by decide +kernel
def RL : String := "ExamGardenLaw"
abbrev cL_addExam : ByteArray := method_3_code
def yL_addExam : MethodName := ⟨RL, "addExam", "(LExamGarden;II[J)I"⟩
abbrev cL_addFork : ByteArray := method_4_code
def yL_addFork : MethodName := ⟨RL, "addFork", "(LExamGarden;III[J)I"⟩
abbrev cL_grade : ByteArray := method_5_code
def yL_grade : MethodName := ⟨RL, "grade", "(LExamGarden;II[J)I"⟩
abbrev cL_weigh : ByteArray := method_6_code
def yL_weigh : MethodName := ⟨RL, "weigh", "(LExamGarden;II[J)I"⟩
abbrev cL_enroll : ByteArray := method_7_code
def yL_enroll : MethodName := ⟨RL, "enroll", "(LExamGarden;I[J)I"⟩
abbrev cL_turn : ByteArray := method_8_code
def yL_turn : MethodName := ⟨RL, "turn", "(LExamGarden;IZ[J)I"⟩
abbrev cL_goBack : ByteArray := method_9_code
def yL_goBack : MethodName := ⟨RL, "goBack", "(LExamGarden;I[J)I"⟩
abbrev cL_follow : ByteArray := method_10_code
def yL_follow : MethodName := ⟨RL, "follow", "(LExamGarden;I[J)I"⟩
abbrev cL_isExam : ByteArray := method_11_code
def yL_isExam : MethodName := ⟨RL, "isExam", "(LExamGarden;I[J)I"⟩
abbrev cL_isGraded : ByteArray := method_12_code
def yL_isGraded : MethodName := ⟨RL, "isGraded", "(LExamGarden;I[J)I"⟩
abbrev cL_gradeOf : ByteArray := method_13_code
def yL_gradeOf : MethodName := ⟨RL, "gradeOf", "(LExamGarden;I[J)I"⟩
abbrev cL_leftOf : ByteArray := method_14_code
def yL_leftOf : MethodName := ⟨RL, "leftOf", "(LExamGarden;I[J)I"⟩
abbrev cL_rightOf : ByteArray := method_15_code
def yL_rightOf : MethodName := ⟨RL, "rightOf", "(LExamGarden;I[J)I"⟩
abbrev cL_weightOf : ByteArray := method_16_code
def yL_weightOf : MethodName := ⟨RL, "weightOf", "(LExamGarden;I[J)I"⟩
abbrev cL_placeOf : ByteArray := method_17_code
def yL_placeOf : MethodName := ⟨RL, "placeOf", "(LExamGarden;I[J)I"⟩
abbrev cL_passedBy : ByteArray := method_18_code
def yL_passedBy : MethodName := ⟨RL, "passedBy", "(LExamGarden;I[J)I"⟩
abbrev cL_sureGrade : ByteArray := method_19_code
def yL_sureGrade : MethodName := ⟨RL, "sureGrade", "(LExamGarden;I[J)I"⟩
abbrev cL_hope : ByteArray := method_20_code
def yL_hope : MethodName := ⟨RL, "hope", "(LExamGarden;I[J)I"⟩
abbrev cL_reaches : ByteArray := method_21_code
def yL_reaches : MethodName := ⟨RL, "reaches", "(LExamGarden;II[J)I"⟩
abbrev cL_examsFrom : ByteArray := method_22_code
def yL_examsFrom : MethodName := ⟨RL, "examsFrom", "(LExamGarden;I[J)I"⟩
abbrev cL_risk : ByteArray := method_23_code
def yL_risk : MethodName := ⟨RL, "risk", "(LExamGarden;IZ[J)I"⟩
abbrev cL_planTurnsRight : ByteArray := method_24_code
def yL_planTurnsRight : MethodName := ⟨RL, "planTurnsRight", "(LExamGarden;I[J)I"⟩
abbrev cL_planLeadsTo : ByteArray := method_25_code
def yL_planLeadsTo : MethodName := ⟨RL, "planLeadsTo", "(LExamGarden;I[J)I"⟩
abbrev cL_hindsight : ByteArray := method_26_code
def yL_hindsight : MethodName := ⟨RL, "hindsight", "(LExamGarden;I[J)I"⟩
abbrev cL_regretOf : ByteArray := method_27_code
def yL_regretOf : MethodName := ⟨RL, "regretOf", "(LExamGarden;I[J)I"⟩
abbrev cL_worstFork : ByteArray := method_28_code
def yL_worstFork : MethodName := ⟨RL, "worstFork", "(LExamGarden;I[J)I"⟩
abbrev cL_law : ByteArray := code
def yL_law : MethodName := ⟨RL, "law", "([I)Z"⟩
def wsX0_init : List Cond := .code yX0_init cX0_init 1 none :: ([.methodLink RX0 1 objectInit, .instanceMethod objectInit, .code objectInit ⟨#[0xb1]⟩ 1 none, .arrayClass .int, .fieldLink RX0 9 "ExamGarden" "lowestGrades" "[I", .fieldLink RX0 13 "ExamGarden" "highestGrades" "[I", .fieldLink RX0 16 "ExamGarden" "lefts" "[I", .fieldLink RX0 19 "ExamGarden" "rights" "[I", .fieldLink RX0 22 "ExamGarden" "weights" "[I", .fieldLink RX0 25 "ExamGarden" "grades" "[I", .fieldLink RX0 28 "ExamGarden" "sureGrades" "[I", .fieldLink RX0 31 "ExamGarden" "hopes" "[I", .fieldLink RX0 34 "ExamGarden" "hindsights" "[I", .arrayClass .long, .fieldLink RX0 37 "ExamGarden" "reachedBits" "[J", .fieldLink RX0 41 "ExamGarden" "standing" "[I", .fieldLink RX0 44 "ExamGarden" "passedCounts" "[I", .fieldLink RX0 47 "ExamGarden" "passedForks" "[I"] ++ wsX00)
def wsX0_requireRoom : List Cond := .code yX0_requireRoom cX0_requireRoom 1 none :: ([.classLink RX0 110 "java/lang/IllegalStateException", .initialized "java/lang/IllegalStateException", .fieldLink RX0 60 "ExamGarden" "placeCount" "I"] ++ wsX00 ++ (vx_atS RX0 114 "java/lang/IllegalStateException" ["java/lang/RuntimeException", "java/lang/Exception"]).filter goodWord)
def wsX0_bitOf : List Cond := .code yX0_bitOf cX0_bitOf 1 (some .long) :: ([])
def wsX0_put : List Cond := .code yX0_put cX0_put 3 none :: ([])
def wsX0_putBits : List Cond := .code yX0_putBits cX0_putBits 4 none :: ([])
def wsX0_at : List Cond := .code yX0_at cX0_at 2 (some .int) :: ([])
def wsX0_hasGrade : List Cond := .code yX0_hasGrade cX0_hasGrade 2 (some .boolean) :: ([.fieldLink RX0 25 "ExamGarden" "grades" "[I", .methodLink RX0 100 yX0_at, .static yX0_at, .initialized RX0, .code yX0_at cX0_at 2 (some .int)] ++ wsX00)
def wsX0_settleExam : List Cond := .code yX0_settleExam cX0_settleExam 4 none :: ([.fieldLink RX0 25 "ExamGarden" "grades" "[I", .fieldLink RX0 28 "ExamGarden" "sureGrades" "[I", .fieldLink RX0 9 "ExamGarden" "lowestGrades" "[I", .fieldLink RX0 31 "ExamGarden" "hopes" "[I", .fieldLink RX0 13 "ExamGarden" "highestGrades" "[I", .fieldLink RX0 34 "ExamGarden" "hindsights" "[I", .methodLink RX0 106 yX0_hasGrade, .instanceMethod yX0_hasGrade, .selects RX0 yX0_hasGrade yX0_hasGrade, .initialized RX0, .code yX0_hasGrade cX0_hasGrade 2 (some .boolean), .methodLink RX0 100 yX0_at, .static yX0_at, .code yX0_at cX0_at 2 (some .int), .methodLink RX0 72 yX0_put, .static yX0_put, .code yX0_put cX0_put 3 none] ++ wsX00)
def wsX0_addExam_r1 : List Cond := [Cond.classLink RX0 50 "java/lang/IllegalArgumentException", Cond.initialized "java/lang/IllegalArgumentException", Cond.fieldLink RX0 60 "ExamGarden" "placeCount" "I", Cond.fieldLink RX0 64 "ExamGarden" "examBits" "J", Cond.fieldLink RX0 9 "ExamGarden" "lowestGrades" "[I", Cond.fieldLink RX0 13 "ExamGarden" "highestGrades" "[I", Cond.fieldLink RX0 25 "ExamGarden" "grades" "[I", Cond.fieldLink RX0 37 "ExamGarden" "reachedBits" "[J", Cond.methodLink RX0 57 yX0_requireRoom, Cond.instanceMethod yX0_requireRoom, Cond.selects RX0 yX0_requireRoom yX0_requireRoom, Cond.initialized RX0, Cond.code yX0_requireRoom cX0_requireRoom 1 none, Cond.classLink RX0 110 "java/lang/IllegalStateException", Cond.initialized "java/lang/IllegalStateException", Cond.methodLink RX0 68 yX0_bitOf, Cond.static yX0_bitOf, Cond.code yX0_bitOf cX0_bitOf 1 (some .long), Cond.methodLink RX0 72 yX0_put, Cond.static yX0_put, Cond.code yX0_put cX0_put 3 none, Cond.methodLink RX0 76 yX0_putBits, Cond.static yX0_putBits, Cond.code yX0_putBits cX0_putBits 4 none]
def wsX0_addExam_r2 : List Cond := [Cond.methodLink RX0 80 yX0_settleExam, Cond.instanceMethod yX0_settleExam, Cond.selects RX0 yX0_settleExam yX0_settleExam, Cond.code yX0_settleExam cX0_settleExam 4 none, Cond.fieldLink RX0 28 "ExamGarden" "sureGrades" "[I", Cond.fieldLink RX0 31 "ExamGarden" "hopes" "[I", Cond.fieldLink RX0 34 "ExamGarden" "hindsights" "[I", Cond.methodLink RX0 106 yX0_hasGrade, Cond.instanceMethod yX0_hasGrade, Cond.selects RX0 yX0_hasGrade yX0_hasGrade, Cond.code yX0_hasGrade cX0_hasGrade 2 (some .boolean), Cond.methodLink RX0 100 yX0_at, Cond.static yX0_at, Cond.code yX0_at cX0_at 2 (some .int)]
def wsX0_addExam : List Cond := .code yX0_addExam cX0_addExam 4 (some .int) :: ((wsX0_addExam_r1 ++ wsX0_addExam_r2) ++ wsX00 ++ (vx_atS RX0 54 "java/lang/IllegalArgumentException" ["java/lang/RuntimeException", "java/lang/Exception"]).filter goodWord ++ (vx_atS RX0 114 "java/lang/IllegalStateException" ["java/lang/RuntimeException", "java/lang/Exception"]).filter goodWord)
def wsX0_requirePlace : List Cond := .code yX0_requirePlace cX0_requirePlace 2 none :: ([.classLink RX0 250 "java/lang/IndexOutOfBoundsException", .initialized "java/lang/IndexOutOfBoundsException", .fieldLink RX0 60 "ExamGarden" "placeCount" "I"] ++ wsX00 ++ (vx_atS RX0 254 "java/lang/IndexOutOfBoundsException" ["java/lang/RuntimeException", "java/lang/Exception"]).filter goodWord)
def wsX0_requireWeight : List Cond := .code yX0_requireWeight cX0_requireWeight 1 none :: ([.classLink RX0 50 "java/lang/IllegalArgumentException", .initialized "java/lang/IllegalArgumentException"] ++ (vx_atS RX0 54 "java/lang/IllegalArgumentException" ["java/lang/RuntimeException", "java/lang/Exception"]).filter goodWord)
def wsX0_bitsAt : List Cond := .code yX0_bitsAt cX0_bitsAt 2 (some .long) :: ([])
def wsX0_settleGreater : List Cond := .code yX0_settleGreater cX0_settleGreater 3 none :: ([.fieldLink RX0 16 "ExamGarden" "lefts" "[I", .fieldLink RX0 19 "ExamGarden" "rights" "[I", .methodLink RX0 269 Lib.Math.max.name, .static Lib.Math.max.name, .initialized "java/lang/Math", .code Lib.Math.max.name Lib.Math.max.code 2 (some .int), .methodLink RX0 100 yX0_at, .static yX0_at, .initialized RX0, .code yX0_at cX0_at 2 (some .int), .methodLink RX0 72 yX0_put, .static yX0_put, .code yX0_put cX0_put 3 none] ++ wsX00)
def wsX0_settleFork : List Cond := .code yX0_settleFork cX0_settleFork 2 none :: ([.fieldLink RX0 28 "ExamGarden" "sureGrades" "[I", .fieldLink RX0 31 "ExamGarden" "hopes" "[I", .fieldLink RX0 34 "ExamGarden" "hindsights" "[I", .methodLink RX0 265 yX0_settleGreater, .instanceMethod yX0_settleGreater, .selects RX0 yX0_settleGreater yX0_settleGreater, .initialized RX0, .code yX0_settleGreater cX0_settleGreater 3 none, .fieldLink RX0 16 "ExamGarden" "lefts" "[I", .fieldLink RX0 19 "ExamGarden" "rights" "[I", .methodLink RX0 269 Lib.Math.max.name, .static Lib.Math.max.name, .initialized "java/lang/Math", .code Lib.Math.max.name Lib.Math.max.code 2 (some .int), .methodLink RX0 100 yX0_at, .static yX0_at, .code yX0_at cX0_at 2 (some .int), .methodLink RX0 72 yX0_put, .static yX0_put, .code yX0_put cX0_put 3 none] ++ wsX00)
def wsX0_addFork_r1 : List Cond := [Cond.fieldLink RX0 60 "ExamGarden" "placeCount" "I", Cond.fieldLink RX0 16 "ExamGarden" "lefts" "[I", Cond.fieldLink RX0 19 "ExamGarden" "rights" "[I", Cond.fieldLink RX0 22 "ExamGarden" "weights" "[I", Cond.fieldLink RX0 25 "ExamGarden" "grades" "[I", Cond.fieldLink RX0 37 "ExamGarden" "reachedBits" "[J", Cond.methodLink RX0 84 yX0_requirePlace, Cond.instanceMethod yX0_requirePlace, Cond.selects RX0 yX0_requirePlace yX0_requirePlace, Cond.initialized RX0, Cond.code yX0_requirePlace cX0_requirePlace 2 none, Cond.classLink RX0 250 "java/lang/IndexOutOfBoundsException", Cond.initialized "java/lang/IndexOutOfBoundsException", Cond.methodLink RX0 87 yX0_requireWeight, Cond.static yX0_requireWeight, Cond.code yX0_requireWeight cX0_requireWeight 1 none, Cond.classLink RX0 50 "java/lang/IllegalArgumentException", Cond.initialized "java/lang/IllegalArgumentException", Cond.methodLink RX0 57 yX0_requireRoom, Cond.instanceMethod yX0_requireRoom, Cond.selects RX0 yX0_requireRoom yX0_requireRoom, Cond.code yX0_requireRoom cX0_requireRoom 1 none, Cond.classLink RX0 110 "java/lang/IllegalStateException", Cond.initialized "java/lang/IllegalStateException"]
def wsX0_addFork_r2 : List Cond := [Cond.methodLink RX0 72 yX0_put, Cond.static yX0_put, Cond.code yX0_put cX0_put 3 none, Cond.methodLink RX0 68 yX0_bitOf, Cond.static yX0_bitOf, Cond.code yX0_bitOf cX0_bitOf 1 (some .long), Cond.methodLink RX0 90 yX0_bitsAt, Cond.static yX0_bitsAt, Cond.code yX0_bitsAt cX0_bitsAt 2 (some .long), Cond.methodLink RX0 76 yX0_putBits, Cond.static yX0_putBits, Cond.code yX0_putBits cX0_putBits 4 none, Cond.methodLink RX0 94 yX0_settleFork, Cond.instanceMethod yX0_settleFork, Cond.selects RX0 yX0_settleFork yX0_settleFork, Cond.code yX0_settleFork cX0_settleFork 2 none, Cond.fieldLink RX0 28 "ExamGarden" "sureGrades" "[I", Cond.fieldLink RX0 31 "ExamGarden" "hopes" "[I", Cond.fieldLink RX0 34 "ExamGarden" "hindsights" "[I", Cond.methodLink RX0 265 yX0_settleGreater, Cond.instanceMethod yX0_settleGreater, Cond.selects RX0 yX0_settleGreater yX0_settleGreater, Cond.code yX0_settleGreater cX0_settleGreater 3 none, Cond.methodLink RX0 269 Lib.Math.max.name]
def wsX0_addFork_r3 : List Cond := [Cond.static Lib.Math.max.name, Cond.initialized "java/lang/Math", Cond.code Lib.Math.max.name Lib.Math.max.code 2 (some .int), Cond.methodLink RX0 100 yX0_at, Cond.static yX0_at, Cond.code yX0_at cX0_at 2 (some .int)]
def wsX0_addFork : List Cond := .code yX0_addFork cX0_addFork 5 (some .int) :: ((wsX0_addFork_r1 ++ (wsX0_addFork_r2 ++ wsX0_addFork_r3)) ++ wsX00 ++ (vx_atS RX0 254 "java/lang/IndexOutOfBoundsException" ["java/lang/RuntimeException", "java/lang/Exception"]).filter goodWord ++ (vx_atS RX0 54 "java/lang/IllegalArgumentException" ["java/lang/RuntimeException", "java/lang/Exception"]).filter goodWord ++ (vx_atS RX0 114 "java/lang/IllegalStateException" ["java/lang/RuntimeException", "java/lang/Exception"]).filter goodWord)
def wsX0_holdsExam : List Cond := .code yX0_holdsExam cX0_holdsExam 2 (some .boolean) :: ([.fieldLink RX0 64 "ExamGarden" "examBits" "J", .methodLink RX0 68 yX0_bitOf, .static yX0_bitOf, .initialized RX0, .code yX0_bitOf cX0_bitOf 1 (some .long)] ++ wsX00)
def wsX0_requireExam : List Cond := .code yX0_requireExam cX0_requireExam 2 none :: ([.classLink RX0 250 "java/lang/IndexOutOfBoundsException", .initialized "java/lang/IndexOutOfBoundsException", .methodLink RX0 84 yX0_requirePlace, .instanceMethod yX0_requirePlace, .selects RX0 yX0_requirePlace yX0_requirePlace, .initialized RX0, .code yX0_requirePlace cX0_requirePlace 2 none, .fieldLink RX0 60 "ExamGarden" "placeCount" "I", .methodLink RX0 135 yX0_holdsExam, .instanceMethod yX0_holdsExam, .selects RX0 yX0_holdsExam yX0_holdsExam, .code yX0_holdsExam cX0_holdsExam 2 (some .boolean), .fieldLink RX0 64 "ExamGarden" "examBits" "J", .methodLink RX0 68 yX0_bitOf, .static yX0_bitOf, .code yX0_bitOf cX0_bitOf 1 (some .long)] ++ wsX00 ++ (vx_atS RX0 254 "java/lang/IndexOutOfBoundsException" ["java/lang/RuntimeException", "java/lang/Exception"]).filter goodWord)
def wsX0_settleForksAfter_r1 : List Cond := [Cond.fieldLink RX0 60 "ExamGarden" "placeCount" "I", Cond.methodLink RX0 135 yX0_holdsExam, Cond.instanceMethod yX0_holdsExam, Cond.selects RX0 yX0_holdsExam yX0_holdsExam, Cond.initialized RX0, Cond.code yX0_holdsExam cX0_holdsExam 2 (some .boolean), Cond.fieldLink RX0 64 "ExamGarden" "examBits" "J", Cond.methodLink RX0 68 yX0_bitOf, Cond.static yX0_bitOf, Cond.code yX0_bitOf cX0_bitOf 1 (some .long), Cond.methodLink RX0 94 yX0_settleFork, Cond.instanceMethod yX0_settleFork, Cond.selects RX0 yX0_settleFork yX0_settleFork, Cond.code yX0_settleFork cX0_settleFork 2 none, Cond.fieldLink RX0 28 "ExamGarden" "sureGrades" "[I", Cond.fieldLink RX0 31 "ExamGarden" "hopes" "[I", Cond.fieldLink RX0 34 "ExamGarden" "hindsights" "[I", Cond.methodLink RX0 265 yX0_settleGreater, Cond.instanceMethod yX0_settleGreater, Cond.selects RX0 yX0_settleGreater yX0_settleGreater, Cond.code yX0_settleGreater cX0_settleGreater 3 none, Cond.fieldLink RX0 16 "ExamGarden" "lefts" "[I", Cond.fieldLink RX0 19 "ExamGarden" "rights" "[I", Cond.methodLink RX0 269 Lib.Math.max.name]
def wsX0_settleForksAfter_r2 : List Cond := [Cond.static Lib.Math.max.name, Cond.initialized "java/lang/Math", Cond.code Lib.Math.max.name Lib.Math.max.code 2 (some .int), Cond.methodLink RX0 100 yX0_at, Cond.static yX0_at, Cond.code yX0_at cX0_at 2 (some .int), Cond.methodLink RX0 72 yX0_put, Cond.static yX0_put, Cond.code yX0_put cX0_put 3 none]
def wsX0_settleForksAfter : List Cond := .code yX0_settleForksAfter cX0_settleForksAfter 3 none :: ((wsX0_settleForksAfter_r1 ++ wsX0_settleForksAfter_r2) ++ wsX00)
def wsX0_grade_r1 : List Cond := [Cond.classLink RX0 50 "java/lang/IllegalArgumentException", Cond.initialized "java/lang/IllegalArgumentException", Cond.classLink RX0 110 "java/lang/IllegalStateException", Cond.initialized "java/lang/IllegalStateException", Cond.fieldLink RX0 9 "ExamGarden" "lowestGrades" "[I", Cond.fieldLink RX0 13 "ExamGarden" "highestGrades" "[I", Cond.fieldLink RX0 25 "ExamGarden" "grades" "[I", Cond.fieldLink RX0 115 "ExamGarden" "gradedCount" "I", Cond.fieldLink RX0 118 "ExamGarden" "gradeSum" "I", Cond.methodLink RX0 97 yX0_requireExam, Cond.instanceMethod yX0_requireExam, Cond.selects RX0 yX0_requireExam yX0_requireExam, Cond.initialized RX0, Cond.code yX0_requireExam cX0_requireExam 2 none, Cond.classLink RX0 250 "java/lang/IndexOutOfBoundsException", Cond.initialized "java/lang/IndexOutOfBoundsException", Cond.methodLink RX0 84 yX0_requirePlace, Cond.instanceMethod yX0_requirePlace, Cond.selects RX0 yX0_requirePlace yX0_requirePlace, Cond.code yX0_requirePlace cX0_requirePlace 2 none, Cond.fieldLink RX0 60 "ExamGarden" "placeCount" "I", Cond.methodLink RX0 135 yX0_holdsExam, Cond.instanceMethod yX0_holdsExam, Cond.selects RX0 yX0_holdsExam yX0_holdsExam]
def wsX0_grade_r2 : List Cond := [Cond.code yX0_holdsExam cX0_holdsExam 2 (some .boolean), Cond.fieldLink RX0 64 "ExamGarden" "examBits" "J", Cond.methodLink RX0 68 yX0_bitOf, Cond.static yX0_bitOf, Cond.code yX0_bitOf cX0_bitOf 1 (some .long), Cond.methodLink RX0 100 yX0_at, Cond.static yX0_at, Cond.code yX0_at cX0_at 2 (some .int), Cond.methodLink RX0 106 yX0_hasGrade, Cond.instanceMethod yX0_hasGrade, Cond.selects RX0 yX0_hasGrade yX0_hasGrade, Cond.code yX0_hasGrade cX0_hasGrade 2 (some .boolean), Cond.methodLink RX0 72 yX0_put, Cond.static yX0_put, Cond.code yX0_put cX0_put 3 none, Cond.methodLink RX0 80 yX0_settleExam, Cond.instanceMethod yX0_settleExam, Cond.selects RX0 yX0_settleExam yX0_settleExam, Cond.code yX0_settleExam cX0_settleExam 4 none, Cond.fieldLink RX0 28 "ExamGarden" "sureGrades" "[I", Cond.fieldLink RX0 31 "ExamGarden" "hopes" "[I", Cond.fieldLink RX0 34 "ExamGarden" "hindsights" "[I", Cond.methodLink RX0 121 yX0_settleForksAfter, Cond.instanceMethod yX0_settleForksAfter]
def wsX0_grade_r3 : List Cond := [Cond.selects RX0 yX0_settleForksAfter yX0_settleForksAfter, Cond.code yX0_settleForksAfter cX0_settleForksAfter 3 none, Cond.methodLink RX0 94 yX0_settleFork, Cond.instanceMethod yX0_settleFork, Cond.selects RX0 yX0_settleFork yX0_settleFork, Cond.code yX0_settleFork cX0_settleFork 2 none, Cond.methodLink RX0 265 yX0_settleGreater, Cond.instanceMethod yX0_settleGreater, Cond.selects RX0 yX0_settleGreater yX0_settleGreater, Cond.code yX0_settleGreater cX0_settleGreater 3 none, Cond.fieldLink RX0 16 "ExamGarden" "lefts" "[I", Cond.fieldLink RX0 19 "ExamGarden" "rights" "[I", Cond.methodLink RX0 269 Lib.Math.max.name, Cond.static Lib.Math.max.name, Cond.initialized "java/lang/Math", Cond.code Lib.Math.max.name Lib.Math.max.code 2 (some .int)]
def wsX0_grade : List Cond := .code yX0_grade cX0_grade 3 (some .int) :: ((wsX0_grade_r1 ++ (wsX0_grade_r2 ++ wsX0_grade_r3)) ++ wsX00 ++ (vx_atS RX0 54 "java/lang/IllegalArgumentException" ["java/lang/RuntimeException", "java/lang/Exception"]).filter goodWord ++ (vx_atS RX0 114 "java/lang/IllegalStateException" ["java/lang/RuntimeException", "java/lang/Exception"]).filter goodWord ++ (vx_atS RX0 254 "java/lang/IndexOutOfBoundsException" ["java/lang/RuntimeException", "java/lang/Exception"]).filter goodWord)
def wsX0_requireFork : List Cond := .code yX0_requireFork cX0_requireFork 2 none :: ([.classLink RX0 250 "java/lang/IndexOutOfBoundsException", .initialized "java/lang/IndexOutOfBoundsException", .methodLink RX0 84 yX0_requirePlace, .instanceMethod yX0_requirePlace, .selects RX0 yX0_requirePlace yX0_requirePlace, .initialized RX0, .code yX0_requirePlace cX0_requirePlace 2 none, .fieldLink RX0 60 "ExamGarden" "placeCount" "I", .methodLink RX0 135 yX0_holdsExam, .instanceMethod yX0_holdsExam, .selects RX0 yX0_holdsExam yX0_holdsExam, .code yX0_holdsExam cX0_holdsExam 2 (some .boolean), .fieldLink RX0 64 "ExamGarden" "examBits" "J", .methodLink RX0 68 yX0_bitOf, .static yX0_bitOf, .code yX0_bitOf cX0_bitOf 1 (some .long)] ++ wsX00 ++ (vx_atS RX0 254 "java/lang/IndexOutOfBoundsException" ["java/lang/RuntimeException", "java/lang/Exception"]).filter goodWord)
def wsX0_weigh_r1 : List Cond := [Cond.fieldLink RX0 22 "ExamGarden" "weights" "[I", Cond.methodLink RX0 124 yX0_requireFork, Cond.instanceMethod yX0_requireFork, Cond.selects RX0 yX0_requireFork yX0_requireFork, Cond.initialized RX0, Cond.code yX0_requireFork cX0_requireFork 2 none, Cond.classLink RX0 250 "java/lang/IndexOutOfBoundsException", Cond.initialized "java/lang/IndexOutOfBoundsException", Cond.methodLink RX0 84 yX0_requirePlace, Cond.instanceMethod yX0_requirePlace, Cond.selects RX0 yX0_requirePlace yX0_requirePlace, Cond.code yX0_requirePlace cX0_requirePlace 2 none, Cond.fieldLink RX0 60 "ExamGarden" "placeCount" "I", Cond.methodLink RX0 135 yX0_holdsExam, Cond.instanceMethod yX0_holdsExam, Cond.selects RX0 yX0_holdsExam yX0_holdsExam, Cond.code yX0_holdsExam cX0_holdsExam 2 (some .boolean), Cond.fieldLink RX0 64 "ExamGarden" "examBits" "J", Cond.methodLink RX0 68 yX0_bitOf, Cond.static yX0_bitOf, Cond.code yX0_bitOf cX0_bitOf 1 (some .long), Cond.methodLink RX0 87 yX0_requireWeight, Cond.static yX0_requireWeight, Cond.code yX0_requireWeight cX0_requireWeight 1 none]
def wsX0_weigh_r2 : List Cond := [Cond.classLink RX0 50 "java/lang/IllegalArgumentException", Cond.initialized "java/lang/IllegalArgumentException", Cond.methodLink RX0 100 yX0_at, Cond.static yX0_at, Cond.code yX0_at cX0_at 2 (some .int), Cond.methodLink RX0 72 yX0_put, Cond.static yX0_put, Cond.code yX0_put cX0_put 3 none]
def wsX0_weigh : List Cond := .code yX0_weigh cX0_weigh 4 (some .int) :: ((wsX0_weigh_r1 ++ wsX0_weigh_r2) ++ wsX00 ++ (vx_atS RX0 254 "java/lang/IndexOutOfBoundsException" ["java/lang/RuntimeException", "java/lang/Exception"]).filter goodWord ++ (vx_atS RX0 54 "java/lang/IllegalArgumentException" ["java/lang/RuntimeException", "java/lang/Exception"]).filter goodWord)
def wsX0_enroll : List Cond := .code yX0_enroll cX0_enroll 3 (some .int) :: ([.classLink RX0 110 "java/lang/IllegalStateException", .initialized "java/lang/IllegalStateException", .fieldLink RX0 127 "ExamGarden" "studentCount" "I", .fieldLink RX0 41 "ExamGarden" "standing" "[I", .methodLink RX0 84 yX0_requirePlace, .instanceMethod yX0_requirePlace, .selects RX0 yX0_requirePlace yX0_requirePlace, .initialized RX0, .code yX0_requirePlace cX0_requirePlace 2 none, .classLink RX0 250 "java/lang/IndexOutOfBoundsException", .initialized "java/lang/IndexOutOfBoundsException", .fieldLink RX0 60 "ExamGarden" "placeCount" "I", .methodLink RX0 72 yX0_put, .static yX0_put, .code yX0_put cX0_put 3 none] ++ wsX00 ++ (vx_atS RX0 114 "java/lang/IllegalStateException" ["java/lang/RuntimeException", "java/lang/Exception"]).filter goodWord ++ (vx_atS RX0 254 "java/lang/IndexOutOfBoundsException" ["java/lang/RuntimeException", "java/lang/Exception"]).filter goodWord)
def wsX0_requireStudent : List Cond := .code yX0_requireStudent cX0_requireStudent 2 none :: ([.classLink RX0 250 "java/lang/IndexOutOfBoundsException", .initialized "java/lang/IndexOutOfBoundsException", .fieldLink RX0 127 "ExamGarden" "studentCount" "I"] ++ wsX00 ++ (vx_atS RX0 254 "java/lang/IndexOutOfBoundsException" ["java/lang/RuntimeException", "java/lang/Exception"]).filter goodWord)
def wsX0_pathFrom : List Cond := .code yX0_pathFrom cX0_pathFrom 3 (some .int) :: ([.fieldLink RX0 19 "ExamGarden" "rights" "[I", .fieldLink RX0 16 "ExamGarden" "lefts" "[I", .methodLink RX0 100 yX0_at, .static yX0_at, .initialized RX0, .code yX0_at cX0_at 2 (some .int)] ++ wsX00)
def wsX0_walk : List Cond := .code yX0_walk cX0_walk 5 none :: ([.fieldLink RX0 41 "ExamGarden" "standing" "[I", .fieldLink RX0 44 "ExamGarden" "passedCounts" "[I", .fieldLink RX0 47 "ExamGarden" "passedForks" "[I", .methodLink RX0 100 yX0_at, .static yX0_at, .initialized RX0, .code yX0_at cX0_at 2 (some .int), .methodLink RX0 72 yX0_put, .static yX0_put, .code yX0_put cX0_put 3 none, .methodLink RX0 163 yX0_pathFrom, .instanceMethod yX0_pathFrom, .selects RX0 yX0_pathFrom yX0_pathFrom, .code yX0_pathFrom cX0_pathFrom 3 (some .int), .fieldLink RX0 19 "ExamGarden" "rights" "[I", .fieldLink RX0 16 "ExamGarden" "lefts" "[I"] ++ wsX00)
def wsX0_turn_r1 : List Cond := [Cond.classLink RX0 110 "java/lang/IllegalStateException", Cond.initialized "java/lang/IllegalStateException", Cond.fieldLink RX0 41 "ExamGarden" "standing" "[I", Cond.methodLink RX0 132 yX0_requireStudent, Cond.instanceMethod yX0_requireStudent, Cond.selects RX0 yX0_requireStudent yX0_requireStudent, Cond.initialized RX0, Cond.code yX0_requireStudent cX0_requireStudent 2 none, Cond.classLink RX0 250 "java/lang/IndexOutOfBoundsException", Cond.initialized "java/lang/IndexOutOfBoundsException", Cond.fieldLink RX0 127 "ExamGarden" "studentCount" "I", Cond.methodLink RX0 100 yX0_at, Cond.static yX0_at, Cond.code yX0_at cX0_at 2 (some .int), Cond.methodLink RX0 135 yX0_holdsExam, Cond.instanceMethod yX0_holdsExam, Cond.selects RX0 yX0_holdsExam yX0_holdsExam, Cond.code yX0_holdsExam cX0_holdsExam 2 (some .boolean), Cond.fieldLink RX0 64 "ExamGarden" "examBits" "J", Cond.methodLink RX0 68 yX0_bitOf, Cond.static yX0_bitOf, Cond.code yX0_bitOf cX0_bitOf 1 (some .long), Cond.methodLink RX0 140 yX0_walk, Cond.instanceMethod yX0_walk]
def wsX0_turn_r2 : List Cond := [Cond.selects RX0 yX0_walk yX0_walk, Cond.code yX0_walk cX0_walk 5 none, Cond.fieldLink RX0 44 "ExamGarden" "passedCounts" "[I", Cond.fieldLink RX0 47 "ExamGarden" "passedForks" "[I", Cond.methodLink RX0 72 yX0_put, Cond.static yX0_put, Cond.code yX0_put cX0_put 3 none, Cond.methodLink RX0 163 yX0_pathFrom, Cond.instanceMethod yX0_pathFrom, Cond.selects RX0 yX0_pathFrom yX0_pathFrom, Cond.code yX0_pathFrom cX0_pathFrom 3 (some .int), Cond.fieldLink RX0 19 "ExamGarden" "rights" "[I", Cond.fieldLink RX0 16 "ExamGarden" "lefts" "[I"]
def wsX0_turn : List Cond := .code yX0_turn cX0_turn 3 (some .int) :: ((wsX0_turn_r1 ++ wsX0_turn_r2) ++ wsX00 ++ (vx_atS RX0 114 "java/lang/IllegalStateException" ["java/lang/RuntimeException", "java/lang/Exception"]).filter goodWord ++ (vx_atS RX0 254 "java/lang/IndexOutOfBoundsException" ["java/lang/RuntimeException", "java/lang/Exception"]).filter goodWord)
def wsX0_passedFork : List Cond := .code yX0_passedFork cX0_passedFork 3 (some .int) :: ([.fieldLink RX0 47 "ExamGarden" "passedForks" "[I", .methodLink RX0 100 yX0_at, .static yX0_at, .initialized RX0, .code yX0_at cX0_at 2 (some .int)] ++ wsX00)
def wsX0_goBack : List Cond := .code yX0_goBack cX0_goBack 4 (some .int) :: ([.classLink RX0 110 "java/lang/IllegalStateException", .initialized "java/lang/IllegalStateException", .fieldLink RX0 44 "ExamGarden" "passedCounts" "[I", .fieldLink RX0 41 "ExamGarden" "standing" "[I", .methodLink RX0 132 yX0_requireStudent, .instanceMethod yX0_requireStudent, .selects RX0 yX0_requireStudent yX0_requireStudent, .initialized RX0, .code yX0_requireStudent cX0_requireStudent 2 none, .classLink RX0 250 "java/lang/IndexOutOfBoundsException", .initialized "java/lang/IndexOutOfBoundsException", .fieldLink RX0 127 "ExamGarden" "studentCount" "I", .methodLink RX0 100 yX0_at, .static yX0_at, .code yX0_at cX0_at 2 (some .int), .methodLink RX0 146 yX0_passedFork, .instanceMethod yX0_passedFork, .selects RX0 yX0_passedFork yX0_passedFork, .code yX0_passedFork cX0_passedFork 3 (some .int), .fieldLink RX0 47 "ExamGarden" "passedForks" "[I", .methodLink RX0 72 yX0_put, .static yX0_put, .code yX0_put cX0_put 3 none] ++ wsX00 ++ (vx_atS RX0 114 "java/lang/IllegalStateException" ["java/lang/RuntimeException", "java/lang/Exception"]).filter goodWord ++ (vx_atS RX0 254 "java/lang/IndexOutOfBoundsException" ["java/lang/RuntimeException", "java/lang/Exception"]).filter goodWord)
def wsX0_riskOfPath : List Cond := .code yX0_riskOfPath cX0_riskOfPath 5 (some .int) :: ([.fieldLink RX0 28 "ExamGarden" "sureGrades" "[I", .fieldLink RX0 31 "ExamGarden" "hopes" "[I", .methodLink RX0 269 Lib.Math.max.name, .static Lib.Math.max.name, .initialized "java/lang/Math", .code Lib.Math.max.name Lib.Math.max.code 2 (some .int), .fieldLink RX0 22 "ExamGarden" "weights" "[I", .methodLink RX0 163 yX0_pathFrom, .instanceMethod yX0_pathFrom, .selects RX0 yX0_pathFrom yX0_pathFrom, .initialized RX0, .code yX0_pathFrom cX0_pathFrom 3 (some .int), .fieldLink RX0 19 "ExamGarden" "rights" "[I", .fieldLink RX0 16 "ExamGarden" "lefts" "[I", .methodLink RX0 100 yX0_at, .static yX0_at, .code yX0_at cX0_at 2 (some .int)] ++ wsX00)
def wsX0_plansRight : List Cond := .code yX0_plansRight cX0_plansRight 2 (some .boolean) :: ([.methodLink RX0 159 yX0_riskOfPath, .instanceMethod yX0_riskOfPath, .selects RX0 yX0_riskOfPath yX0_riskOfPath, .initialized RX0, .code yX0_riskOfPath cX0_riskOfPath 5 (some .int), .fieldLink RX0 28 "ExamGarden" "sureGrades" "[I", .fieldLink RX0 31 "ExamGarden" "hopes" "[I", .methodLink RX0 269 Lib.Math.max.name, .static Lib.Math.max.name, .initialized "java/lang/Math", .code Lib.Math.max.name Lib.Math.max.code 2 (some .int), .fieldLink RX0 22 "ExamGarden" "weights" "[I", .methodLink RX0 163 yX0_pathFrom, .instanceMethod yX0_pathFrom, .selects RX0 yX0_pathFrom yX0_pathFrom, .code yX0_pathFrom cX0_pathFrom 3 (some .int), .fieldLink RX0 19 "ExamGarden" "rights" "[I", .fieldLink RX0 16 "ExamGarden" "lefts" "[I", .methodLink RX0 100 yX0_at, .static yX0_at, .code yX0_at cX0_at 2 (some .int)] ++ wsX00)
def wsX0_follow_r1 : List Cond := [Cond.fieldLink RX0 41 "ExamGarden" "standing" "[I", Cond.methodLink RX0 132 yX0_requireStudent, Cond.instanceMethod yX0_requireStudent, Cond.selects RX0 yX0_requireStudent yX0_requireStudent, Cond.initialized RX0, Cond.code yX0_requireStudent cX0_requireStudent 2 none, Cond.classLink RX0 250 "java/lang/IndexOutOfBoundsException", Cond.initialized "java/lang/IndexOutOfBoundsException", Cond.fieldLink RX0 127 "ExamGarden" "studentCount" "I", Cond.methodLink RX0 100 yX0_at, Cond.static yX0_at, Cond.code yX0_at cX0_at 2 (some .int), Cond.methodLink RX0 135 yX0_holdsExam, Cond.instanceMethod yX0_holdsExam, Cond.selects RX0 yX0_holdsExam yX0_holdsExam, Cond.code yX0_holdsExam cX0_holdsExam 2 (some .boolean), Cond.fieldLink RX0 64 "ExamGarden" "examBits" "J", Cond.methodLink RX0 68 yX0_bitOf, Cond.static yX0_bitOf, Cond.code yX0_bitOf cX0_bitOf 1 (some .long), Cond.methodLink RX0 150 yX0_plansRight, Cond.instanceMethod yX0_plansRight, Cond.selects RX0 yX0_plansRight yX0_plansRight, Cond.code yX0_plansRight cX0_plansRight 2 (some .boolean)]
def wsX0_follow_r2 : List Cond := [Cond.methodLink RX0 159 yX0_riskOfPath, Cond.instanceMethod yX0_riskOfPath, Cond.selects RX0 yX0_riskOfPath yX0_riskOfPath, Cond.code yX0_riskOfPath cX0_riskOfPath 5 (some .int), Cond.fieldLink RX0 28 "ExamGarden" "sureGrades" "[I", Cond.fieldLink RX0 31 "ExamGarden" "hopes" "[I", Cond.methodLink RX0 269 Lib.Math.max.name, Cond.static Lib.Math.max.name, Cond.initialized "java/lang/Math", Cond.code Lib.Math.max.name Lib.Math.max.code 2 (some .int), Cond.fieldLink RX0 22 "ExamGarden" "weights" "[I", Cond.methodLink RX0 163 yX0_pathFrom, Cond.instanceMethod yX0_pathFrom, Cond.selects RX0 yX0_pathFrom yX0_pathFrom, Cond.code yX0_pathFrom cX0_pathFrom 3 (some .int), Cond.fieldLink RX0 19 "ExamGarden" "rights" "[I", Cond.fieldLink RX0 16 "ExamGarden" "lefts" "[I", Cond.methodLink RX0 140 yX0_walk, Cond.instanceMethod yX0_walk, Cond.selects RX0 yX0_walk yX0_walk, Cond.code yX0_walk cX0_walk 5 none, Cond.fieldLink RX0 44 "ExamGarden" "passedCounts" "[I", Cond.fieldLink RX0 47 "ExamGarden" "passedForks" "[I", Cond.methodLink RX0 72 yX0_put]
def wsX0_follow_r3 : List Cond := [Cond.static yX0_put, Cond.code yX0_put cX0_put 3 none]
def wsX0_follow : List Cond := .code yX0_follow cX0_follow 3 (some .int) :: ((wsX0_follow_r1 ++ (wsX0_follow_r2 ++ wsX0_follow_r3)) ++ wsX00 ++ (vx_atS RX0 254 "java/lang/IndexOutOfBoundsException" ["java/lang/RuntimeException", "java/lang/Exception"]).filter goodWord)
def wsX0_places : List Cond := .code yX0_places cX0_places 1 (some .int) :: ([.fieldLink RX0 60 "ExamGarden" "placeCount" "I"] ++ wsX00)
def wsJ13_bitCount_95d88 : List Cond := .code yJ13_bitCount_95d88 cJ13_bitCount_95d88 2 (some .int) :: ([.constantLong RJ13 314 (6148914691236517205), .constantLong RJ13 316 (3689348814741910323), .constantLong RJ13 318 (1085102592571150095)])
def wsX0_exams : List Cond := .code yX0_exams cX0_exams 1 (some .int) :: ([.fieldLink RX0 64 "ExamGarden" "examBits" "J", .methodLink RX0 153 yJ13_bitCount_95d88, .static yJ13_bitCount_95d88, .initialized RJ13, .code yJ13_bitCount_95d88 cJ13_bitCount_95d88 2 (some .int), .constantLong RJ13 314 (6148914691236517205), .constantLong RJ13 316 (3689348814741910323), .constantLong RJ13 318 (1085102592571150095)] ++ wsX00)
def wsX0_graded : List Cond := .code yX0_graded cX0_graded 1 (some .int) :: ([.fieldLink RX0 115 "ExamGarden" "gradedCount" "I"] ++ wsX00)
def wsX0_students : List Cond := .code yX0_students cX0_students 1 (some .int) :: ([.fieldLink RX0 127 "ExamGarden" "studentCount" "I"] ++ wsX00)
def wsX0_atExams : List Cond := .code yX0_atExams cX0_atExams 3 (some .int) :: ([.fieldLink RX0 127 "ExamGarden" "studentCount" "I", .fieldLink RX0 41 "ExamGarden" "standing" "[I", .methodLink RX0 100 yX0_at, .static yX0_at, .initialized RX0, .code yX0_at cX0_at 2 (some .int), .methodLink RX0 135 yX0_holdsExam, .instanceMethod yX0_holdsExam, .selects RX0 yX0_holdsExam yX0_holdsExam, .code yX0_holdsExam cX0_holdsExam 2 (some .boolean), .fieldLink RX0 64 "ExamGarden" "examBits" "J", .methodLink RX0 68 yX0_bitOf, .static yX0_bitOf, .code yX0_bitOf cX0_bitOf 1 (some .long)] ++ wsX00)
def wsX0_isExam : List Cond := .code yX0_isExam cX0_isExam 2 (some .boolean) :: ([.methodLink RX0 84 yX0_requirePlace, .instanceMethod yX0_requirePlace, .selects RX0 yX0_requirePlace yX0_requirePlace, .initialized RX0, .code yX0_requirePlace cX0_requirePlace 2 none, .classLink RX0 250 "java/lang/IndexOutOfBoundsException", .initialized "java/lang/IndexOutOfBoundsException", .fieldLink RX0 60 "ExamGarden" "placeCount" "I", .methodLink RX0 135 yX0_holdsExam, .instanceMethod yX0_holdsExam, .selects RX0 yX0_holdsExam yX0_holdsExam, .code yX0_holdsExam cX0_holdsExam 2 (some .boolean), .fieldLink RX0 64 "ExamGarden" "examBits" "J", .methodLink RX0 68 yX0_bitOf, .static yX0_bitOf, .code yX0_bitOf cX0_bitOf 1 (some .long)] ++ wsX00 ++ (vx_atS RX0 254 "java/lang/IndexOutOfBoundsException" ["java/lang/RuntimeException", "java/lang/Exception"]).filter goodWord)
def wsX0_isGraded_r1 : List Cond := [Cond.methodLink RX0 97 yX0_requireExam, Cond.instanceMethod yX0_requireExam, Cond.selects RX0 yX0_requireExam yX0_requireExam, Cond.initialized RX0, Cond.code yX0_requireExam cX0_requireExam 2 none, Cond.classLink RX0 250 "java/lang/IndexOutOfBoundsException", Cond.initialized "java/lang/IndexOutOfBoundsException", Cond.methodLink RX0 84 yX0_requirePlace, Cond.instanceMethod yX0_requirePlace, Cond.selects RX0 yX0_requirePlace yX0_requirePlace, Cond.code yX0_requirePlace cX0_requirePlace 2 none, Cond.fieldLink RX0 60 "ExamGarden" "placeCount" "I", Cond.methodLink RX0 135 yX0_holdsExam, Cond.instanceMethod yX0_holdsExam, Cond.selects RX0 yX0_holdsExam yX0_holdsExam, Cond.code yX0_holdsExam cX0_holdsExam 2 (some .boolean), Cond.fieldLink RX0 64 "ExamGarden" "examBits" "J", Cond.methodLink RX0 68 yX0_bitOf, Cond.static yX0_bitOf, Cond.code yX0_bitOf cX0_bitOf 1 (some .long), Cond.methodLink RX0 106 yX0_hasGrade, Cond.instanceMethod yX0_hasGrade, Cond.selects RX0 yX0_hasGrade yX0_hasGrade, Cond.code yX0_hasGrade cX0_hasGrade 2 (some .boolean)]
def wsX0_isGraded_r2 : List Cond := [Cond.fieldLink RX0 25 "ExamGarden" "grades" "[I", Cond.methodLink RX0 100 yX0_at, Cond.static yX0_at, Cond.code yX0_at cX0_at 2 (some .int)]
def wsX0_isGraded : List Cond := .code yX0_isGraded cX0_isGraded 2 (some .boolean) :: ((wsX0_isGraded_r1 ++ wsX0_isGraded_r2) ++ wsX00 ++ (vx_atS RX0 254 "java/lang/IndexOutOfBoundsException" ["java/lang/RuntimeException", "java/lang/Exception"]).filter goodWord)
def wsX0_gradeOf : List Cond := .code yX0_gradeOf cX0_gradeOf 2 (some .int) :: ([.fieldLink RX0 25 "ExamGarden" "grades" "[I", .methodLink RX0 97 yX0_requireExam, .instanceMethod yX0_requireExam, .selects RX0 yX0_requireExam yX0_requireExam, .initialized RX0, .code yX0_requireExam cX0_requireExam 2 none, .classLink RX0 250 "java/lang/IndexOutOfBoundsException", .initialized "java/lang/IndexOutOfBoundsException", .methodLink RX0 84 yX0_requirePlace, .instanceMethod yX0_requirePlace, .selects RX0 yX0_requirePlace yX0_requirePlace, .code yX0_requirePlace cX0_requirePlace 2 none, .fieldLink RX0 60 "ExamGarden" "placeCount" "I", .methodLink RX0 135 yX0_holdsExam, .instanceMethod yX0_holdsExam, .selects RX0 yX0_holdsExam yX0_holdsExam, .code yX0_holdsExam cX0_holdsExam 2 (some .boolean), .fieldLink RX0 64 "ExamGarden" "examBits" "J", .methodLink RX0 68 yX0_bitOf, .static yX0_bitOf, .code yX0_bitOf cX0_bitOf 1 (some .long), .methodLink RX0 100 yX0_at, .static yX0_at, .code yX0_at cX0_at 2 (some .int)] ++ wsX00 ++ (vx_atS RX0 254 "java/lang/IndexOutOfBoundsException" ["java/lang/RuntimeException", "java/lang/Exception"]).filter goodWord)
def wsX0_leftOf : List Cond := .code yX0_leftOf cX0_leftOf 2 (some .int) :: ([.fieldLink RX0 16 "ExamGarden" "lefts" "[I", .methodLink RX0 124 yX0_requireFork, .instanceMethod yX0_requireFork, .selects RX0 yX0_requireFork yX0_requireFork, .initialized RX0, .code yX0_requireFork cX0_requireFork 2 none, .classLink RX0 250 "java/lang/IndexOutOfBoundsException", .initialized "java/lang/IndexOutOfBoundsException", .methodLink RX0 84 yX0_requirePlace, .instanceMethod yX0_requirePlace, .selects RX0 yX0_requirePlace yX0_requirePlace, .code yX0_requirePlace cX0_requirePlace 2 none, .fieldLink RX0 60 "ExamGarden" "placeCount" "I", .methodLink RX0 135 yX0_holdsExam, .instanceMethod yX0_holdsExam, .selects RX0 yX0_holdsExam yX0_holdsExam, .code yX0_holdsExam cX0_holdsExam 2 (some .boolean), .fieldLink RX0 64 "ExamGarden" "examBits" "J", .methodLink RX0 68 yX0_bitOf, .static yX0_bitOf, .code yX0_bitOf cX0_bitOf 1 (some .long), .methodLink RX0 100 yX0_at, .static yX0_at, .code yX0_at cX0_at 2 (some .int)] ++ wsX00 ++ (vx_atS RX0 254 "java/lang/IndexOutOfBoundsException" ["java/lang/RuntimeException", "java/lang/Exception"]).filter goodWord)
def wsX0_rightOf : List Cond := .code yX0_rightOf cX0_rightOf 2 (some .int) :: ([.fieldLink RX0 19 "ExamGarden" "rights" "[I", .methodLink RX0 124 yX0_requireFork, .instanceMethod yX0_requireFork, .selects RX0 yX0_requireFork yX0_requireFork, .initialized RX0, .code yX0_requireFork cX0_requireFork 2 none, .classLink RX0 250 "java/lang/IndexOutOfBoundsException", .initialized "java/lang/IndexOutOfBoundsException", .methodLink RX0 84 yX0_requirePlace, .instanceMethod yX0_requirePlace, .selects RX0 yX0_requirePlace yX0_requirePlace, .code yX0_requirePlace cX0_requirePlace 2 none, .fieldLink RX0 60 "ExamGarden" "placeCount" "I", .methodLink RX0 135 yX0_holdsExam, .instanceMethod yX0_holdsExam, .selects RX0 yX0_holdsExam yX0_holdsExam, .code yX0_holdsExam cX0_holdsExam 2 (some .boolean), .fieldLink RX0 64 "ExamGarden" "examBits" "J", .methodLink RX0 68 yX0_bitOf, .static yX0_bitOf, .code yX0_bitOf cX0_bitOf 1 (some .long), .methodLink RX0 100 yX0_at, .static yX0_at, .code yX0_at cX0_at 2 (some .int)] ++ wsX00 ++ (vx_atS RX0 254 "java/lang/IndexOutOfBoundsException" ["java/lang/RuntimeException", "java/lang/Exception"]).filter goodWord)
def wsX0_weightOf : List Cond := .code yX0_weightOf cX0_weightOf 2 (some .int) :: ([.fieldLink RX0 22 "ExamGarden" "weights" "[I", .methodLink RX0 124 yX0_requireFork, .instanceMethod yX0_requireFork, .selects RX0 yX0_requireFork yX0_requireFork, .initialized RX0, .code yX0_requireFork cX0_requireFork 2 none, .classLink RX0 250 "java/lang/IndexOutOfBoundsException", .initialized "java/lang/IndexOutOfBoundsException", .methodLink RX0 84 yX0_requirePlace, .instanceMethod yX0_requirePlace, .selects RX0 yX0_requirePlace yX0_requirePlace, .code yX0_requirePlace cX0_requirePlace 2 none, .fieldLink RX0 60 "ExamGarden" "placeCount" "I", .methodLink RX0 135 yX0_holdsExam, .instanceMethod yX0_holdsExam, .selects RX0 yX0_holdsExam yX0_holdsExam, .code yX0_holdsExam cX0_holdsExam 2 (some .boolean), .fieldLink RX0 64 "ExamGarden" "examBits" "J", .methodLink RX0 68 yX0_bitOf, .static yX0_bitOf, .code yX0_bitOf cX0_bitOf 1 (some .long), .methodLink RX0 100 yX0_at, .static yX0_at, .code yX0_at cX0_at 2 (some .int)] ++ wsX00 ++ (vx_atS RX0 254 "java/lang/IndexOutOfBoundsException" ["java/lang/RuntimeException", "java/lang/Exception"]).filter goodWord)
def wsX0_placeOf : List Cond := .code yX0_placeOf cX0_placeOf 2 (some .int) :: ([.fieldLink RX0 41 "ExamGarden" "standing" "[I", .methodLink RX0 132 yX0_requireStudent, .instanceMethod yX0_requireStudent, .selects RX0 yX0_requireStudent yX0_requireStudent, .initialized RX0, .code yX0_requireStudent cX0_requireStudent 2 none, .classLink RX0 250 "java/lang/IndexOutOfBoundsException", .initialized "java/lang/IndexOutOfBoundsException", .fieldLink RX0 127 "ExamGarden" "studentCount" "I", .methodLink RX0 100 yX0_at, .static yX0_at, .code yX0_at cX0_at 2 (some .int)] ++ wsX00 ++ (vx_atS RX0 254 "java/lang/IndexOutOfBoundsException" ["java/lang/RuntimeException", "java/lang/Exception"]).filter goodWord)
def wsX0_passedBy : List Cond := .code yX0_passedBy cX0_passedBy 2 (some .int) :: ([.fieldLink RX0 44 "ExamGarden" "passedCounts" "[I", .methodLink RX0 132 yX0_requireStudent, .instanceMethod yX0_requireStudent, .selects RX0 yX0_requireStudent yX0_requireStudent, .initialized RX0, .code yX0_requireStudent cX0_requireStudent 2 none, .classLink RX0 250 "java/lang/IndexOutOfBoundsException", .initialized "java/lang/IndexOutOfBoundsException", .fieldLink RX0 127 "ExamGarden" "studentCount" "I", .methodLink RX0 100 yX0_at, .static yX0_at, .code yX0_at cX0_at 2 (some .int)] ++ wsX00 ++ (vx_atS RX0 254 "java/lang/IndexOutOfBoundsException" ["java/lang/RuntimeException", "java/lang/Exception"]).filter goodWord)
def wsX0_sureGrade : List Cond := .code yX0_sureGrade cX0_sureGrade 2 (some .int) :: ([.fieldLink RX0 28 "ExamGarden" "sureGrades" "[I", .methodLink RX0 84 yX0_requirePlace, .instanceMethod yX0_requirePlace, .selects RX0 yX0_requirePlace yX0_requirePlace, .initialized RX0, .code yX0_requirePlace cX0_requirePlace 2 none, .classLink RX0 250 "java/lang/IndexOutOfBoundsException", .initialized "java/lang/IndexOutOfBoundsException", .fieldLink RX0 60 "ExamGarden" "placeCount" "I", .methodLink RX0 100 yX0_at, .static yX0_at, .code yX0_at cX0_at 2 (some .int)] ++ wsX00 ++ (vx_atS RX0 254 "java/lang/IndexOutOfBoundsException" ["java/lang/RuntimeException", "java/lang/Exception"]).filter goodWord)
def wsX0_hope : List Cond := .code yX0_hope cX0_hope 2 (some .int) :: ([.fieldLink RX0 31 "ExamGarden" "hopes" "[I", .methodLink RX0 84 yX0_requirePlace, .instanceMethod yX0_requirePlace, .selects RX0 yX0_requirePlace yX0_requirePlace, .initialized RX0, .code yX0_requirePlace cX0_requirePlace 2 none, .classLink RX0 250 "java/lang/IndexOutOfBoundsException", .initialized "java/lang/IndexOutOfBoundsException", .fieldLink RX0 60 "ExamGarden" "placeCount" "I", .methodLink RX0 100 yX0_at, .static yX0_at, .code yX0_at cX0_at 2 (some .int)] ++ wsX00 ++ (vx_atS RX0 254 "java/lang/IndexOutOfBoundsException" ["java/lang/RuntimeException", "java/lang/Exception"]).filter goodWord)
def wsX0_reaches : List Cond := .code yX0_reaches cX0_reaches 3 (some .boolean) :: ([.fieldLink RX0 37 "ExamGarden" "reachedBits" "[J", .methodLink RX0 84 yX0_requirePlace, .instanceMethod yX0_requirePlace, .selects RX0 yX0_requirePlace yX0_requirePlace, .initialized RX0, .code yX0_requirePlace cX0_requirePlace 2 none, .classLink RX0 250 "java/lang/IndexOutOfBoundsException", .initialized "java/lang/IndexOutOfBoundsException", .fieldLink RX0 60 "ExamGarden" "placeCount" "I", .methodLink RX0 90 yX0_bitsAt, .static yX0_bitsAt, .code yX0_bitsAt cX0_bitsAt 2 (some .long), .methodLink RX0 68 yX0_bitOf, .static yX0_bitOf, .code yX0_bitOf cX0_bitOf 1 (some .long)] ++ wsX00 ++ (vx_atS RX0 254 "java/lang/IndexOutOfBoundsException" ["java/lang/RuntimeException", "java/lang/Exception"]).filter goodWord)
def wsX0_examsFrom : List Cond := .code yX0_examsFrom cX0_examsFrom 2 (some .int) :: ([.fieldLink RX0 37 "ExamGarden" "reachedBits" "[J", .fieldLink RX0 64 "ExamGarden" "examBits" "J", .methodLink RX0 84 yX0_requirePlace, .instanceMethod yX0_requirePlace, .selects RX0 yX0_requirePlace yX0_requirePlace, .initialized RX0, .code yX0_requirePlace cX0_requirePlace 2 none, .classLink RX0 250 "java/lang/IndexOutOfBoundsException", .initialized "java/lang/IndexOutOfBoundsException", .fieldLink RX0 60 "ExamGarden" "placeCount" "I", .methodLink RX0 90 yX0_bitsAt, .static yX0_bitsAt, .code yX0_bitsAt cX0_bitsAt 2 (some .long), .methodLink RX0 153 yJ13_bitCount_95d88, .static yJ13_bitCount_95d88, .initialized RJ13, .code yJ13_bitCount_95d88 cJ13_bitCount_95d88 2 (some .int), .constantLong RJ13 314 (6148914691236517205), .constantLong RJ13 316 (3689348814741910323), .constantLong RJ13 318 (1085102592571150095)] ++ wsX00 ++ (vx_atS RX0 254 "java/lang/IndexOutOfBoundsException" ["java/lang/RuntimeException", "java/lang/Exception"]).filter goodWord)
def wsX0_risk_r1 : List Cond := [Cond.methodLink RX0 124 yX0_requireFork, Cond.instanceMethod yX0_requireFork, Cond.selects RX0 yX0_requireFork yX0_requireFork, Cond.initialized RX0, Cond.code yX0_requireFork cX0_requireFork 2 none, Cond.classLink RX0 250 "java/lang/IndexOutOfBoundsException", Cond.initialized "java/lang/IndexOutOfBoundsException", Cond.methodLink RX0 84 yX0_requirePlace, Cond.instanceMethod yX0_requirePlace, Cond.selects RX0 yX0_requirePlace yX0_requirePlace, Cond.code yX0_requirePlace cX0_requirePlace 2 none, Cond.fieldLink RX0 60 "ExamGarden" "placeCount" "I", Cond.methodLink RX0 135 yX0_holdsExam, Cond.instanceMethod yX0_holdsExam, Cond.selects RX0 yX0_holdsExam yX0_holdsExam, Cond.code yX0_holdsExam cX0_holdsExam 2 (some .boolean), Cond.fieldLink RX0 64 "ExamGarden" "examBits" "J", Cond.methodLink RX0 68 yX0_bitOf, Cond.static yX0_bitOf, Cond.code yX0_bitOf cX0_bitOf 1 (some .long), Cond.methodLink RX0 159 yX0_riskOfPath, Cond.instanceMethod yX0_riskOfPath, Cond.selects RX0 yX0_riskOfPath yX0_riskOfPath, Cond.code yX0_riskOfPath cX0_riskOfPath 5 (some .int)]
def wsX0_risk_r2 : List Cond := [Cond.fieldLink RX0 28 "ExamGarden" "sureGrades" "[I", Cond.fieldLink RX0 31 "ExamGarden" "hopes" "[I", Cond.methodLink RX0 269 Lib.Math.max.name, Cond.static Lib.Math.max.name, Cond.initialized "java/lang/Math", Cond.code Lib.Math.max.name Lib.Math.max.code 2 (some .int), Cond.fieldLink RX0 22 "ExamGarden" "weights" "[I", Cond.methodLink RX0 163 yX0_pathFrom, Cond.instanceMethod yX0_pathFrom, Cond.selects RX0 yX0_pathFrom yX0_pathFrom, Cond.code yX0_pathFrom cX0_pathFrom 3 (some .int), Cond.fieldLink RX0 19 "ExamGarden" "rights" "[I", Cond.fieldLink RX0 16 "ExamGarden" "lefts" "[I", Cond.methodLink RX0 100 yX0_at, Cond.static yX0_at, Cond.code yX0_at cX0_at 2 (some .int)]
def wsX0_risk : List Cond := .code yX0_risk cX0_risk 3 (some .int) :: ((wsX0_risk_r1 ++ wsX0_risk_r2) ++ wsX00 ++ (vx_atS RX0 254 "java/lang/IndexOutOfBoundsException" ["java/lang/RuntimeException", "java/lang/Exception"]).filter goodWord)
def wsX0_planTurnsRight_r1 : List Cond := [Cond.methodLink RX0 124 yX0_requireFork, Cond.instanceMethod yX0_requireFork, Cond.selects RX0 yX0_requireFork yX0_requireFork, Cond.initialized RX0, Cond.code yX0_requireFork cX0_requireFork 2 none, Cond.classLink RX0 250 "java/lang/IndexOutOfBoundsException", Cond.initialized "java/lang/IndexOutOfBoundsException", Cond.methodLink RX0 84 yX0_requirePlace, Cond.instanceMethod yX0_requirePlace, Cond.selects RX0 yX0_requirePlace yX0_requirePlace, Cond.code yX0_requirePlace cX0_requirePlace 2 none, Cond.fieldLink RX0 60 "ExamGarden" "placeCount" "I", Cond.methodLink RX0 135 yX0_holdsExam, Cond.instanceMethod yX0_holdsExam, Cond.selects RX0 yX0_holdsExam yX0_holdsExam, Cond.code yX0_holdsExam cX0_holdsExam 2 (some .boolean), Cond.fieldLink RX0 64 "ExamGarden" "examBits" "J", Cond.methodLink RX0 68 yX0_bitOf, Cond.static yX0_bitOf, Cond.code yX0_bitOf cX0_bitOf 1 (some .long), Cond.methodLink RX0 150 yX0_plansRight, Cond.instanceMethod yX0_plansRight, Cond.selects RX0 yX0_plansRight yX0_plansRight, Cond.code yX0_plansRight cX0_plansRight 2 (some .boolean)]
def wsX0_planTurnsRight_r2 : List Cond := [Cond.methodLink RX0 159 yX0_riskOfPath, Cond.instanceMethod yX0_riskOfPath, Cond.selects RX0 yX0_riskOfPath yX0_riskOfPath, Cond.code yX0_riskOfPath cX0_riskOfPath 5 (some .int), Cond.fieldLink RX0 28 "ExamGarden" "sureGrades" "[I", Cond.fieldLink RX0 31 "ExamGarden" "hopes" "[I", Cond.methodLink RX0 269 Lib.Math.max.name, Cond.static Lib.Math.max.name, Cond.initialized "java/lang/Math", Cond.code Lib.Math.max.name Lib.Math.max.code 2 (some .int), Cond.fieldLink RX0 22 "ExamGarden" "weights" "[I", Cond.methodLink RX0 163 yX0_pathFrom, Cond.instanceMethod yX0_pathFrom, Cond.selects RX0 yX0_pathFrom yX0_pathFrom, Cond.code yX0_pathFrom cX0_pathFrom 3 (some .int), Cond.fieldLink RX0 19 "ExamGarden" "rights" "[I", Cond.fieldLink RX0 16 "ExamGarden" "lefts" "[I", Cond.methodLink RX0 100 yX0_at, Cond.static yX0_at, Cond.code yX0_at cX0_at 2 (some .int)]
def wsX0_planTurnsRight : List Cond := .code yX0_planTurnsRight cX0_planTurnsRight 2 (some .boolean) :: ((wsX0_planTurnsRight_r1 ++ wsX0_planTurnsRight_r2) ++ wsX00 ++ (vx_atS RX0 254 "java/lang/IndexOutOfBoundsException" ["java/lang/RuntimeException", "java/lang/Exception"]).filter goodWord)
def wsX0_planLeadsTo_r1 : List Cond := [Cond.methodLink RX0 84 yX0_requirePlace, Cond.instanceMethod yX0_requirePlace, Cond.selects RX0 yX0_requirePlace yX0_requirePlace, Cond.initialized RX0, Cond.code yX0_requirePlace cX0_requirePlace 2 none, Cond.classLink RX0 250 "java/lang/IndexOutOfBoundsException", Cond.initialized "java/lang/IndexOutOfBoundsException", Cond.fieldLink RX0 60 "ExamGarden" "placeCount" "I", Cond.methodLink RX0 135 yX0_holdsExam, Cond.instanceMethod yX0_holdsExam, Cond.selects RX0 yX0_holdsExam yX0_holdsExam, Cond.code yX0_holdsExam cX0_holdsExam 2 (some .boolean), Cond.fieldLink RX0 64 "ExamGarden" "examBits" "J", Cond.methodLink RX0 68 yX0_bitOf, Cond.static yX0_bitOf, Cond.code yX0_bitOf cX0_bitOf 1 (some .long), Cond.methodLink RX0 150 yX0_plansRight, Cond.instanceMethod yX0_plansRight, Cond.selects RX0 yX0_plansRight yX0_plansRight, Cond.code yX0_plansRight cX0_plansRight 2 (some .boolean), Cond.methodLink RX0 159 yX0_riskOfPath, Cond.instanceMethod yX0_riskOfPath, Cond.selects RX0 yX0_riskOfPath yX0_riskOfPath, Cond.code yX0_riskOfPath cX0_riskOfPath 5 (some .int)]
def wsX0_planLeadsTo_r2 : List Cond := [Cond.fieldLink RX0 28 "ExamGarden" "sureGrades" "[I", Cond.fieldLink RX0 31 "ExamGarden" "hopes" "[I", Cond.methodLink RX0 269 Lib.Math.max.name, Cond.static Lib.Math.max.name, Cond.initialized "java/lang/Math", Cond.code Lib.Math.max.name Lib.Math.max.code 2 (some .int), Cond.fieldLink RX0 22 "ExamGarden" "weights" "[I", Cond.methodLink RX0 163 yX0_pathFrom, Cond.instanceMethod yX0_pathFrom, Cond.selects RX0 yX0_pathFrom yX0_pathFrom, Cond.code yX0_pathFrom cX0_pathFrom 3 (some .int), Cond.fieldLink RX0 19 "ExamGarden" "rights" "[I", Cond.fieldLink RX0 16 "ExamGarden" "lefts" "[I", Cond.methodLink RX0 100 yX0_at, Cond.static yX0_at, Cond.code yX0_at cX0_at 2 (some .int)]
def wsX0_planLeadsTo : List Cond := .code yX0_planLeadsTo cX0_planLeadsTo 4 (some .int) :: ((wsX0_planLeadsTo_r1 ++ wsX0_planLeadsTo_r2) ++ wsX00 ++ (vx_atS RX0 254 "java/lang/IndexOutOfBoundsException" ["java/lang/RuntimeException", "java/lang/Exception"]).filter goodWord)
def wsX0_smallerRisk : List Cond := .code yX0_smallerRisk cX0_smallerRisk 2 (some .int) :: ([.methodLink RX0 274 Lib.Math.min.name, .static Lib.Math.min.name, .initialized "java/lang/Math", .code Lib.Math.min.name Lib.Math.min.code 2 (some .int), .methodLink RX0 159 yX0_riskOfPath, .instanceMethod yX0_riskOfPath, .selects RX0 yX0_riskOfPath yX0_riskOfPath, .initialized RX0, .code yX0_riskOfPath cX0_riskOfPath 5 (some .int), .fieldLink RX0 28 "ExamGarden" "sureGrades" "[I", .fieldLink RX0 31 "ExamGarden" "hopes" "[I", .methodLink RX0 269 Lib.Math.max.name, .static Lib.Math.max.name, .code Lib.Math.max.name Lib.Math.max.code 2 (some .int), .fieldLink RX0 22 "ExamGarden" "weights" "[I", .methodLink RX0 163 yX0_pathFrom, .instanceMethod yX0_pathFrom, .selects RX0 yX0_pathFrom yX0_pathFrom, .code yX0_pathFrom cX0_pathFrom 3 (some .int), .fieldLink RX0 19 "ExamGarden" "rights" "[I", .fieldLink RX0 16 "ExamGarden" "lefts" "[I", .methodLink RX0 100 yX0_at, .static yX0_at, .code yX0_at cX0_at 2 (some .int)] ++ wsX00)
def wsX0_riskiestFork_r1 : List Cond := [Cond.fieldLink RX0 60 "ExamGarden" "placeCount" "I", Cond.methodLink RX0 135 yX0_holdsExam, Cond.instanceMethod yX0_holdsExam, Cond.selects RX0 yX0_holdsExam yX0_holdsExam, Cond.initialized RX0, Cond.code yX0_holdsExam cX0_holdsExam 2 (some .boolean), Cond.fieldLink RX0 64 "ExamGarden" "examBits" "J", Cond.methodLink RX0 68 yX0_bitOf, Cond.static yX0_bitOf, Cond.code yX0_bitOf cX0_bitOf 1 (some .long), Cond.methodLink RX0 166 yX0_smallerRisk, Cond.instanceMethod yX0_smallerRisk, Cond.selects RX0 yX0_smallerRisk yX0_smallerRisk, Cond.code yX0_smallerRisk cX0_smallerRisk 2 (some .int), Cond.methodLink RX0 274 Lib.Math.min.name, Cond.static Lib.Math.min.name, Cond.initialized "java/lang/Math", Cond.code Lib.Math.min.name Lib.Math.min.code 2 (some .int), Cond.methodLink RX0 159 yX0_riskOfPath, Cond.instanceMethod yX0_riskOfPath, Cond.selects RX0 yX0_riskOfPath yX0_riskOfPath, Cond.code yX0_riskOfPath cX0_riskOfPath 5 (some .int), Cond.fieldLink RX0 28 "ExamGarden" "sureGrades" "[I", Cond.fieldLink RX0 31 "ExamGarden" "hopes" "[I"]
def wsX0_riskiestFork_r2 : List Cond := [Cond.methodLink RX0 269 Lib.Math.max.name, Cond.static Lib.Math.max.name, Cond.code Lib.Math.max.name Lib.Math.max.code 2 (some .int), Cond.fieldLink RX0 22 "ExamGarden" "weights" "[I", Cond.methodLink RX0 163 yX0_pathFrom, Cond.instanceMethod yX0_pathFrom, Cond.selects RX0 yX0_pathFrom yX0_pathFrom, Cond.code yX0_pathFrom cX0_pathFrom 3 (some .int), Cond.fieldLink RX0 19 "ExamGarden" "rights" "[I", Cond.fieldLink RX0 16 "ExamGarden" "lefts" "[I", Cond.methodLink RX0 100 yX0_at, Cond.static yX0_at, Cond.code yX0_at cX0_at 2 (some .int)]
def wsX0_riskiestFork : List Cond := .code yX0_riskiestFork cX0_riskiestFork 4 (some .int) :: ((wsX0_riskiestFork_r1 ++ wsX0_riskiestFork_r2) ++ wsX00)
def wsX0_hindsight : List Cond := .code yX0_hindsight cX0_hindsight 2 (some .int) :: ([.fieldLink RX0 34 "ExamGarden" "hindsights" "[I", .methodLink RX0 124 yX0_requireFork, .instanceMethod yX0_requireFork, .selects RX0 yX0_requireFork yX0_requireFork, .initialized RX0, .code yX0_requireFork cX0_requireFork 2 none, .classLink RX0 250 "java/lang/IndexOutOfBoundsException", .initialized "java/lang/IndexOutOfBoundsException", .methodLink RX0 84 yX0_requirePlace, .instanceMethod yX0_requirePlace, .selects RX0 yX0_requirePlace yX0_requirePlace, .code yX0_requirePlace cX0_requirePlace 2 none, .fieldLink RX0 60 "ExamGarden" "placeCount" "I", .methodLink RX0 135 yX0_holdsExam, .instanceMethod yX0_holdsExam, .selects RX0 yX0_holdsExam yX0_holdsExam, .code yX0_holdsExam cX0_holdsExam 2 (some .boolean), .fieldLink RX0 64 "ExamGarden" "examBits" "J", .methodLink RX0 68 yX0_bitOf, .static yX0_bitOf, .code yX0_bitOf cX0_bitOf 1 (some .long), .methodLink RX0 100 yX0_at, .static yX0_at, .code yX0_at cX0_at 2 (some .int)] ++ wsX00 ++ (vx_atS RX0 254 "java/lang/IndexOutOfBoundsException" ["java/lang/RuntimeException", "java/lang/Exception"]).filter goodWord)
def wsX0_requireGraded : List Cond := .code yX0_requireGraded cX0_requireGraded 2 none :: ([.classLink RX0 110 "java/lang/IllegalStateException", .initialized "java/lang/IllegalStateException", .fieldLink RX0 41 "ExamGarden" "standing" "[I", .methodLink RX0 100 yX0_at, .static yX0_at, .initialized RX0, .code yX0_at cX0_at 2 (some .int), .methodLink RX0 106 yX0_hasGrade, .instanceMethod yX0_hasGrade, .selects RX0 yX0_hasGrade yX0_hasGrade, .code yX0_hasGrade cX0_hasGrade 2 (some .boolean), .fieldLink RX0 25 "ExamGarden" "grades" "[I"] ++ wsX00 ++ (vx_atS RX0 114 "java/lang/IllegalStateException" ["java/lang/RuntimeException", "java/lang/Exception"]).filter goodWord)
def wsX0_regretOfStep : List Cond := .code yX0_regretOfStep cX0_regretOfStep 5 (some .int) :: ([.fieldLink RX0 25 "ExamGarden" "grades" "[I", .fieldLink RX0 41 "ExamGarden" "standing" "[I", .fieldLink RX0 34 "ExamGarden" "hindsights" "[I", .methodLink RX0 269 Lib.Math.max.name, .static Lib.Math.max.name, .initialized "java/lang/Math", .code Lib.Math.max.name Lib.Math.max.code 2 (some .int), .fieldLink RX0 22 "ExamGarden" "weights" "[I", .methodLink RX0 146 yX0_passedFork, .instanceMethod yX0_passedFork, .selects RX0 yX0_passedFork yX0_passedFork, .initialized RX0, .code yX0_passedFork cX0_passedFork 3 (some .int), .fieldLink RX0 47 "ExamGarden" "passedForks" "[I", .methodLink RX0 100 yX0_at, .static yX0_at, .code yX0_at cX0_at 2 (some .int)] ++ wsX00)
def wsX0_regretOfAll : List Cond := .code yX0_regretOfAll cX0_regretOfAll 5 (some .int) :: ([.fieldLink RX0 44 "ExamGarden" "passedCounts" "[I", .methodLink RX0 100 yX0_at, .static yX0_at, .initialized RX0, .code yX0_at cX0_at 2 (some .int), .methodLink RX0 176 yX0_regretOfStep, .instanceMethod yX0_regretOfStep, .selects RX0 yX0_regretOfStep yX0_regretOfStep, .code yX0_regretOfStep cX0_regretOfStep 5 (some .int), .fieldLink RX0 25 "ExamGarden" "grades" "[I", .fieldLink RX0 41 "ExamGarden" "standing" "[I", .fieldLink RX0 34 "ExamGarden" "hindsights" "[I", .methodLink RX0 269 Lib.Math.max.name, .static Lib.Math.max.name, .initialized "java/lang/Math", .code Lib.Math.max.name Lib.Math.max.code 2 (some .int), .fieldLink RX0 22 "ExamGarden" "weights" "[I", .methodLink RX0 146 yX0_passedFork, .instanceMethod yX0_passedFork, .selects RX0 yX0_passedFork yX0_passedFork, .code yX0_passedFork cX0_passedFork 3 (some .int), .fieldLink RX0 47 "ExamGarden" "passedForks" "[I"] ++ wsX00)
def wsX0_regretOf_r1 : List Cond := [Cond.methodLink RX0 132 yX0_requireStudent, Cond.instanceMethod yX0_requireStudent, Cond.selects RX0 yX0_requireStudent yX0_requireStudent, Cond.initialized RX0, Cond.code yX0_requireStudent cX0_requireStudent 2 none, Cond.classLink RX0 250 "java/lang/IndexOutOfBoundsException", Cond.initialized "java/lang/IndexOutOfBoundsException", Cond.fieldLink RX0 127 "ExamGarden" "studentCount" "I", Cond.methodLink RX0 170 yX0_requireGraded, Cond.instanceMethod yX0_requireGraded, Cond.selects RX0 yX0_requireGraded yX0_requireGraded, Cond.code yX0_requireGraded cX0_requireGraded 2 none, Cond.classLink RX0 110 "java/lang/IllegalStateException", Cond.initialized "java/lang/IllegalStateException", Cond.fieldLink RX0 41 "ExamGarden" "standing" "[I", Cond.methodLink RX0 100 yX0_at, Cond.static yX0_at, Cond.code yX0_at cX0_at 2 (some .int), Cond.methodLink RX0 106 yX0_hasGrade, Cond.instanceMethod yX0_hasGrade, Cond.selects RX0 yX0_hasGrade yX0_hasGrade, Cond.code yX0_hasGrade cX0_hasGrade 2 (some .boolean), Cond.fieldLink RX0 25 "ExamGarden" "grades" "[I", Cond.methodLink RX0 173 yX0_regretOfAll]
def wsX0_regretOf_r2 : List Cond := [Cond.instanceMethod yX0_regretOfAll, Cond.selects RX0 yX0_regretOfAll yX0_regretOfAll, Cond.code yX0_regretOfAll cX0_regretOfAll 5 (some .int), Cond.fieldLink RX0 44 "ExamGarden" "passedCounts" "[I", Cond.methodLink RX0 176 yX0_regretOfStep, Cond.instanceMethod yX0_regretOfStep, Cond.selects RX0 yX0_regretOfStep yX0_regretOfStep, Cond.code yX0_regretOfStep cX0_regretOfStep 5 (some .int), Cond.fieldLink RX0 34 "ExamGarden" "hindsights" "[I", Cond.methodLink RX0 269 Lib.Math.max.name, Cond.static Lib.Math.max.name, Cond.initialized "java/lang/Math", Cond.code Lib.Math.max.name Lib.Math.max.code 2 (some .int), Cond.fieldLink RX0 22 "ExamGarden" "weights" "[I", Cond.methodLink RX0 146 yX0_passedFork, Cond.instanceMethod yX0_passedFork, Cond.selects RX0 yX0_passedFork yX0_passedFork, Cond.code yX0_passedFork cX0_passedFork 3 (some .int), Cond.fieldLink RX0 47 "ExamGarden" "passedForks" "[I"]
def wsX0_regretOf : List Cond := .code yX0_regretOf cX0_regretOf 2 (some .int) :: ((wsX0_regretOf_r1 ++ wsX0_regretOf_r2) ++ wsX00 ++ (vx_atS RX0 254 "java/lang/IndexOutOfBoundsException" ["java/lang/RuntimeException", "java/lang/Exception"]).filter goodWord ++ (vx_atS RX0 114 "java/lang/IllegalStateException" ["java/lang/RuntimeException", "java/lang/Exception"]).filter goodWord)
def wsX0_worstFork_r1 : List Cond := [Cond.fieldLink RX0 44 "ExamGarden" "passedCounts" "[I", Cond.methodLink RX0 132 yX0_requireStudent, Cond.instanceMethod yX0_requireStudent, Cond.selects RX0 yX0_requireStudent yX0_requireStudent, Cond.initialized RX0, Cond.code yX0_requireStudent cX0_requireStudent 2 none, Cond.classLink RX0 250 "java/lang/IndexOutOfBoundsException", Cond.initialized "java/lang/IndexOutOfBoundsException", Cond.fieldLink RX0 127 "ExamGarden" "studentCount" "I", Cond.methodLink RX0 170 yX0_requireGraded, Cond.instanceMethod yX0_requireGraded, Cond.selects RX0 yX0_requireGraded yX0_requireGraded, Cond.code yX0_requireGraded cX0_requireGraded 2 none, Cond.classLink RX0 110 "java/lang/IllegalStateException", Cond.initialized "java/lang/IllegalStateException", Cond.fieldLink RX0 41 "ExamGarden" "standing" "[I", Cond.methodLink RX0 100 yX0_at, Cond.static yX0_at, Cond.code yX0_at cX0_at 2 (some .int), Cond.methodLink RX0 106 yX0_hasGrade, Cond.instanceMethod yX0_hasGrade, Cond.selects RX0 yX0_hasGrade yX0_hasGrade, Cond.code yX0_hasGrade cX0_hasGrade 2 (some .boolean), Cond.fieldLink RX0 25 "ExamGarden" "grades" "[I"]
def wsX0_worstFork_r2 : List Cond := [Cond.methodLink RX0 176 yX0_regretOfStep, Cond.instanceMethod yX0_regretOfStep, Cond.selects RX0 yX0_regretOfStep yX0_regretOfStep, Cond.code yX0_regretOfStep cX0_regretOfStep 5 (some .int), Cond.fieldLink RX0 34 "ExamGarden" "hindsights" "[I", Cond.methodLink RX0 269 Lib.Math.max.name, Cond.static Lib.Math.max.name, Cond.initialized "java/lang/Math", Cond.code Lib.Math.max.name Lib.Math.max.code 2 (some .int), Cond.fieldLink RX0 22 "ExamGarden" "weights" "[I", Cond.methodLink RX0 146 yX0_passedFork, Cond.instanceMethod yX0_passedFork, Cond.selects RX0 yX0_passedFork yX0_passedFork, Cond.code yX0_passedFork cX0_passedFork 3 (some .int), Cond.fieldLink RX0 47 "ExamGarden" "passedForks" "[I"]
def wsX0_worstFork : List Cond := .code yX0_worstFork cX0_worstFork 7 (some .int) :: ((wsX0_worstFork_r1 ++ wsX0_worstFork_r2) ++ wsX00 ++ (vx_atS RX0 254 "java/lang/IndexOutOfBoundsException" ["java/lang/RuntimeException", "java/lang/Exception"]).filter goodWord ++ (vx_atS RX0 114 "java/lang/IllegalStateException" ["java/lang/RuntimeException", "java/lang/Exception"]).filter goodWord)
def wsX0_allRegret_r1 : List Cond := [Cond.fieldLink RX0 127 "ExamGarden" "studentCount" "I", Cond.fieldLink RX0 41 "ExamGarden" "standing" "[I", Cond.methodLink RX0 100 yX0_at, Cond.static yX0_at, Cond.initialized RX0, Cond.code yX0_at cX0_at 2 (some .int), Cond.methodLink RX0 106 yX0_hasGrade, Cond.instanceMethod yX0_hasGrade, Cond.selects RX0 yX0_hasGrade yX0_hasGrade, Cond.code yX0_hasGrade cX0_hasGrade 2 (some .boolean), Cond.fieldLink RX0 25 "ExamGarden" "grades" "[I", Cond.methodLink RX0 173 yX0_regretOfAll, Cond.instanceMethod yX0_regretOfAll, Cond.selects RX0 yX0_regretOfAll yX0_regretOfAll, Cond.code yX0_regretOfAll cX0_regretOfAll 5 (some .int), Cond.fieldLink RX0 44 "ExamGarden" "passedCounts" "[I", Cond.methodLink RX0 176 yX0_regretOfStep, Cond.instanceMethod yX0_regretOfStep, Cond.selects RX0 yX0_regretOfStep yX0_regretOfStep, Cond.code yX0_regretOfStep cX0_regretOfStep 5 (some .int), Cond.fieldLink RX0 34 "ExamGarden" "hindsights" "[I", Cond.methodLink RX0 269 Lib.Math.max.name, Cond.static Lib.Math.max.name, Cond.initialized "java/lang/Math"]
def wsX0_allRegret_r2 : List Cond := [Cond.code Lib.Math.max.name Lib.Math.max.code 2 (some .int), Cond.fieldLink RX0 22 "ExamGarden" "weights" "[I", Cond.methodLink RX0 146 yX0_passedFork, Cond.instanceMethod yX0_passedFork, Cond.selects RX0 yX0_passedFork yX0_passedFork, Cond.code yX0_passedFork cX0_passedFork 3 (some .int), Cond.fieldLink RX0 47 "ExamGarden" "passedForks" "[I"]
def wsX0_allRegret : List Cond := .code yX0_allRegret cX0_allRegret 3 (some .int) :: ((wsX0_allRegret_r1 ++ wsX0_allRegret_r2) ++ wsX00)
def wsX0_meanGrade : List Cond := .code yX0_meanGrade cX0_meanGrade 1 (some .double) :: ([.fieldLink RX0 115 "ExamGarden" "gradedCount" "I", .fieldLink RX0 118 "ExamGarden" "gradeSum" "I"] ++ wsX00)
def wsX0_mix : List Cond := .code yX0_mix cX0_mix 3 (some .long) :: ([.constantLong RX0 246 (31)])
def wsX0_mixPlace_r1 : List Cond := [Cond.methodLink RX0 216 yX0_isExam, Cond.instanceMethod yX0_isExam, Cond.selects RX0 yX0_isExam yX0_isExam, Cond.initialized RX0, Cond.code yX0_isExam cX0_isExam 2 (some .boolean), Cond.methodLink RX0 84 yX0_requirePlace, Cond.instanceMethod yX0_requirePlace, Cond.selects RX0 yX0_requirePlace yX0_requirePlace, Cond.code yX0_requirePlace cX0_requirePlace 2 none, Cond.classLink RX0 250 "java/lang/IndexOutOfBoundsException", Cond.initialized "java/lang/IndexOutOfBoundsException", Cond.fieldLink RX0 60 "ExamGarden" "placeCount" "I", Cond.methodLink RX0 135 yX0_holdsExam, Cond.instanceMethod yX0_holdsExam, Cond.selects RX0 yX0_holdsExam yX0_holdsExam, Cond.code yX0_holdsExam cX0_holdsExam 2 (some .boolean), Cond.fieldLink RX0 64 "ExamGarden" "examBits" "J", Cond.methodLink RX0 68 yX0_bitOf, Cond.static yX0_bitOf, Cond.code yX0_bitOf cX0_bitOf 1 (some .long), Cond.methodLink RX0 185 yX0_mix, Cond.static yX0_mix, Cond.code yX0_mix cX0_mix 3 (some .long), Cond.constantLong RX0 246 (31)]
def wsX0_mixPlace_r2 : List Cond := [Cond.methodLink RX0 219 yX0_sureGrade, Cond.instanceMethod yX0_sureGrade, Cond.selects RX0 yX0_sureGrade yX0_sureGrade, Cond.code yX0_sureGrade cX0_sureGrade 2 (some .int), Cond.fieldLink RX0 28 "ExamGarden" "sureGrades" "[I", Cond.methodLink RX0 100 yX0_at, Cond.static yX0_at, Cond.code yX0_at cX0_at 2 (some .int), Cond.methodLink RX0 222 yX0_hope, Cond.instanceMethod yX0_hope, Cond.selects RX0 yX0_hope yX0_hope, Cond.code yX0_hope cX0_hope 2 (some .int), Cond.fieldLink RX0 31 "ExamGarden" "hopes" "[I", Cond.methodLink RX0 225 yX0_examsFrom, Cond.instanceMethod yX0_examsFrom, Cond.selects RX0 yX0_examsFrom yX0_examsFrom, Cond.code yX0_examsFrom cX0_examsFrom 2 (some .int), Cond.fieldLink RX0 37 "ExamGarden" "reachedBits" "[J", Cond.methodLink RX0 90 yX0_bitsAt, Cond.static yX0_bitsAt, Cond.code yX0_bitsAt cX0_bitsAt 2 (some .long), Cond.methodLink RX0 153 yJ13_bitCount_95d88, Cond.static yJ13_bitCount_95d88, Cond.initialized RJ13]
def wsX0_mixPlace_r3 : List Cond := [Cond.code yJ13_bitCount_95d88 cJ13_bitCount_95d88 2 (some .int), Cond.constantLong RJ13 314 (6148914691236517205), Cond.constantLong RJ13 316 (3689348814741910323), Cond.constantLong RJ13 318 (1085102592571150095), Cond.methodLink RX0 228 yX0_planLeadsTo, Cond.instanceMethod yX0_planLeadsTo, Cond.selects RX0 yX0_planLeadsTo yX0_planLeadsTo, Cond.code yX0_planLeadsTo cX0_planLeadsTo 4 (some .int), Cond.methodLink RX0 150 yX0_plansRight, Cond.instanceMethod yX0_plansRight, Cond.selects RX0 yX0_plansRight yX0_plansRight, Cond.code yX0_plansRight cX0_plansRight 2 (some .boolean), Cond.methodLink RX0 159 yX0_riskOfPath, Cond.instanceMethod yX0_riskOfPath, Cond.selects RX0 yX0_riskOfPath yX0_riskOfPath, Cond.code yX0_riskOfPath cX0_riskOfPath 5 (some .int), Cond.methodLink RX0 269 Lib.Math.max.name, Cond.static Lib.Math.max.name, Cond.initialized "java/lang/Math", Cond.code Lib.Math.max.name Lib.Math.max.code 2 (some .int), Cond.fieldLink RX0 22 "ExamGarden" "weights" "[I", Cond.methodLink RX0 163 yX0_pathFrom, Cond.instanceMethod yX0_pathFrom, Cond.selects RX0 yX0_pathFrom yX0_pathFrom]
def wsX0_mixPlace_r4 : List Cond := [Cond.code yX0_pathFrom cX0_pathFrom 3 (some .int), Cond.fieldLink RX0 19 "ExamGarden" "rights" "[I", Cond.fieldLink RX0 16 "ExamGarden" "lefts" "[I", Cond.methodLink RX0 231 yX0_gradeOf, Cond.instanceMethod yX0_gradeOf, Cond.selects RX0 yX0_gradeOf yX0_gradeOf, Cond.code yX0_gradeOf cX0_gradeOf 2 (some .int), Cond.fieldLink RX0 25 "ExamGarden" "grades" "[I", Cond.methodLink RX0 97 yX0_requireExam, Cond.instanceMethod yX0_requireExam, Cond.selects RX0 yX0_requireExam yX0_requireExam, Cond.code yX0_requireExam cX0_requireExam 2 none, Cond.methodLink RX0 234 yX0_leftOf, Cond.instanceMethod yX0_leftOf, Cond.selects RX0 yX0_leftOf yX0_leftOf, Cond.code yX0_leftOf cX0_leftOf 2 (some .int), Cond.methodLink RX0 124 yX0_requireFork, Cond.instanceMethod yX0_requireFork, Cond.selects RX0 yX0_requireFork yX0_requireFork, Cond.code yX0_requireFork cX0_requireFork 2 none, Cond.methodLink RX0 237 yX0_rightOf, Cond.instanceMethod yX0_rightOf, Cond.selects RX0 yX0_rightOf yX0_rightOf, Cond.code yX0_rightOf cX0_rightOf 2 (some .int)]
def wsX0_mixPlace_r5 : List Cond := [Cond.methodLink RX0 240 yX0_weightOf, Cond.instanceMethod yX0_weightOf, Cond.selects RX0 yX0_weightOf yX0_weightOf, Cond.code yX0_weightOf cX0_weightOf 2 (some .int), Cond.methodLink RX0 243 yX0_hindsight, Cond.instanceMethod yX0_hindsight, Cond.selects RX0 yX0_hindsight yX0_hindsight, Cond.code yX0_hindsight cX0_hindsight 2 (some .int), Cond.fieldLink RX0 34 "ExamGarden" "hindsights" "[I"]
def wsX0_mixPlace : List Cond := .code yX0_mixPlace cX0_mixPlace 6 (some .long) :: ((wsX0_mixPlace_r1 ++ (wsX0_mixPlace_r2 ++ (wsX0_mixPlace_r3 ++ (wsX0_mixPlace_r4 ++ wsX0_mixPlace_r5)))) ++ wsX00 ++ (vx_atS RX0 254 "java/lang/IndexOutOfBoundsException" ["java/lang/RuntimeException", "java/lang/Exception"]).filter goodWord)
def wsX0_digest_r1 : List Cond := [Cond.constantLong RX0 179 (1039), Cond.fieldLink RX0 60 "ExamGarden" "placeCount" "I", Cond.fieldLink RX0 127 "ExamGarden" "studentCount" "I", Cond.methodLink RX0 181 yX0_places, Cond.instanceMethod yX0_places, Cond.selects RX0 yX0_places yX0_places, Cond.initialized RX0, Cond.code yX0_places cX0_places 1 (some .int), Cond.methodLink RX0 185 yX0_mix, Cond.static yX0_mix, Cond.code yX0_mix cX0_mix 3 (some .long), Cond.constantLong RX0 246 (31), Cond.methodLink RX0 189 yX0_exams, Cond.instanceMethod yX0_exams, Cond.selects RX0 yX0_exams yX0_exams, Cond.code yX0_exams cX0_exams 1 (some .int), Cond.fieldLink RX0 64 "ExamGarden" "examBits" "J", Cond.methodLink RX0 153 yJ13_bitCount_95d88, Cond.static yJ13_bitCount_95d88, Cond.initialized RJ13, Cond.code yJ13_bitCount_95d88 cJ13_bitCount_95d88 2 (some .int), Cond.constantLong RJ13 314 (6148914691236517205), Cond.constantLong RJ13 316 (3689348814741910323), Cond.constantLong RJ13 318 (1085102592571150095)]
def wsX0_digest_r2 : List Cond := [Cond.methodLink RX0 192 yX0_graded, Cond.instanceMethod yX0_graded, Cond.selects RX0 yX0_graded yX0_graded, Cond.code yX0_graded cX0_graded 1 (some .int), Cond.fieldLink RX0 115 "ExamGarden" "gradedCount" "I", Cond.methodLink RX0 195 yX0_students, Cond.instanceMethod yX0_students, Cond.selects RX0 yX0_students yX0_students, Cond.code yX0_students cX0_students 1 (some .int), Cond.methodLink RX0 198 yX0_atExams, Cond.instanceMethod yX0_atExams, Cond.selects RX0 yX0_atExams yX0_atExams, Cond.code yX0_atExams cX0_atExams 3 (some .int), Cond.fieldLink RX0 41 "ExamGarden" "standing" "[I", Cond.methodLink RX0 100 yX0_at, Cond.static yX0_at, Cond.code yX0_at cX0_at 2 (some .int), Cond.methodLink RX0 135 yX0_holdsExam, Cond.instanceMethod yX0_holdsExam, Cond.selects RX0 yX0_holdsExam yX0_holdsExam, Cond.code yX0_holdsExam cX0_holdsExam 2 (some .boolean), Cond.methodLink RX0 68 yX0_bitOf, Cond.static yX0_bitOf, Cond.code yX0_bitOf cX0_bitOf 1 (some .long)]
def wsX0_digest_r3 : List Cond := [Cond.methodLink RX0 201 yX0_riskiestFork, Cond.instanceMethod yX0_riskiestFork, Cond.selects RX0 yX0_riskiestFork yX0_riskiestFork, Cond.code yX0_riskiestFork cX0_riskiestFork 4 (some .int), Cond.methodLink RX0 166 yX0_smallerRisk, Cond.instanceMethod yX0_smallerRisk, Cond.selects RX0 yX0_smallerRisk yX0_smallerRisk, Cond.code yX0_smallerRisk cX0_smallerRisk 2 (some .int), Cond.methodLink RX0 274 Lib.Math.min.name, Cond.static Lib.Math.min.name, Cond.initialized "java/lang/Math", Cond.code Lib.Math.min.name Lib.Math.min.code 2 (some .int), Cond.methodLink RX0 159 yX0_riskOfPath, Cond.instanceMethod yX0_riskOfPath, Cond.selects RX0 yX0_riskOfPath yX0_riskOfPath, Cond.code yX0_riskOfPath cX0_riskOfPath 5 (some .int), Cond.fieldLink RX0 28 "ExamGarden" "sureGrades" "[I", Cond.fieldLink RX0 31 "ExamGarden" "hopes" "[I", Cond.methodLink RX0 269 Lib.Math.max.name, Cond.static Lib.Math.max.name, Cond.code Lib.Math.max.name Lib.Math.max.code 2 (some .int), Cond.fieldLink RX0 22 "ExamGarden" "weights" "[I", Cond.methodLink RX0 163 yX0_pathFrom, Cond.instanceMethod yX0_pathFrom]
def wsX0_digest_r4 : List Cond := [Cond.selects RX0 yX0_pathFrom yX0_pathFrom, Cond.code yX0_pathFrom cX0_pathFrom 3 (some .int), Cond.fieldLink RX0 19 "ExamGarden" "rights" "[I", Cond.fieldLink RX0 16 "ExamGarden" "lefts" "[I", Cond.methodLink RX0 204 yX0_allRegret, Cond.instanceMethod yX0_allRegret, Cond.selects RX0 yX0_allRegret yX0_allRegret, Cond.code yX0_allRegret cX0_allRegret 3 (some .int), Cond.methodLink RX0 106 yX0_hasGrade, Cond.instanceMethod yX0_hasGrade, Cond.selects RX0 yX0_hasGrade yX0_hasGrade, Cond.code yX0_hasGrade cX0_hasGrade 2 (some .boolean), Cond.fieldLink RX0 25 "ExamGarden" "grades" "[I", Cond.methodLink RX0 173 yX0_regretOfAll, Cond.instanceMethod yX0_regretOfAll, Cond.selects RX0 yX0_regretOfAll yX0_regretOfAll, Cond.code yX0_regretOfAll cX0_regretOfAll 5 (some .int), Cond.fieldLink RX0 44 "ExamGarden" "passedCounts" "[I", Cond.methodLink RX0 176 yX0_regretOfStep, Cond.instanceMethod yX0_regretOfStep, Cond.selects RX0 yX0_regretOfStep yX0_regretOfStep, Cond.code yX0_regretOfStep cX0_regretOfStep 5 (some .int), Cond.fieldLink RX0 34 "ExamGarden" "hindsights" "[I", Cond.methodLink RX0 146 yX0_passedFork]
def wsX0_digest_r5 : List Cond := [Cond.instanceMethod yX0_passedFork, Cond.selects RX0 yX0_passedFork yX0_passedFork, Cond.code yX0_passedFork cX0_passedFork 3 (some .int), Cond.fieldLink RX0 47 "ExamGarden" "passedForks" "[I", Cond.methodLink RX0 207 yX0_mixPlace, Cond.instanceMethod yX0_mixPlace, Cond.selects RX0 yX0_mixPlace yX0_mixPlace, Cond.code yX0_mixPlace cX0_mixPlace 6 (some .long), Cond.methodLink RX0 216 yX0_isExam, Cond.instanceMethod yX0_isExam, Cond.selects RX0 yX0_isExam yX0_isExam, Cond.code yX0_isExam cX0_isExam 2 (some .boolean), Cond.methodLink RX0 84 yX0_requirePlace, Cond.instanceMethod yX0_requirePlace, Cond.selects RX0 yX0_requirePlace yX0_requirePlace, Cond.code yX0_requirePlace cX0_requirePlace 2 none, Cond.classLink RX0 250 "java/lang/IndexOutOfBoundsException", Cond.initialized "java/lang/IndexOutOfBoundsException", Cond.methodLink RX0 219 yX0_sureGrade, Cond.instanceMethod yX0_sureGrade, Cond.selects RX0 yX0_sureGrade yX0_sureGrade, Cond.code yX0_sureGrade cX0_sureGrade 2 (some .int), Cond.methodLink RX0 222 yX0_hope, Cond.instanceMethod yX0_hope]
def wsX0_digest_r6 : List Cond := [Cond.selects RX0 yX0_hope yX0_hope, Cond.code yX0_hope cX0_hope 2 (some .int), Cond.methodLink RX0 225 yX0_examsFrom, Cond.instanceMethod yX0_examsFrom, Cond.selects RX0 yX0_examsFrom yX0_examsFrom, Cond.code yX0_examsFrom cX0_examsFrom 2 (some .int), Cond.fieldLink RX0 37 "ExamGarden" "reachedBits" "[J", Cond.methodLink RX0 90 yX0_bitsAt, Cond.static yX0_bitsAt, Cond.code yX0_bitsAt cX0_bitsAt 2 (some .long), Cond.methodLink RX0 228 yX0_planLeadsTo, Cond.instanceMethod yX0_planLeadsTo, Cond.selects RX0 yX0_planLeadsTo yX0_planLeadsTo, Cond.code yX0_planLeadsTo cX0_planLeadsTo 4 (some .int), Cond.methodLink RX0 150 yX0_plansRight, Cond.instanceMethod yX0_plansRight, Cond.selects RX0 yX0_plansRight yX0_plansRight, Cond.code yX0_plansRight cX0_plansRight 2 (some .boolean), Cond.methodLink RX0 231 yX0_gradeOf, Cond.instanceMethod yX0_gradeOf, Cond.selects RX0 yX0_gradeOf yX0_gradeOf, Cond.code yX0_gradeOf cX0_gradeOf 2 (some .int), Cond.methodLink RX0 97 yX0_requireExam, Cond.instanceMethod yX0_requireExam]
def wsX0_digest_r7 : List Cond := [Cond.selects RX0 yX0_requireExam yX0_requireExam, Cond.code yX0_requireExam cX0_requireExam 2 none, Cond.methodLink RX0 234 yX0_leftOf, Cond.instanceMethod yX0_leftOf, Cond.selects RX0 yX0_leftOf yX0_leftOf, Cond.code yX0_leftOf cX0_leftOf 2 (some .int), Cond.methodLink RX0 124 yX0_requireFork, Cond.instanceMethod yX0_requireFork, Cond.selects RX0 yX0_requireFork yX0_requireFork, Cond.code yX0_requireFork cX0_requireFork 2 none, Cond.methodLink RX0 237 yX0_rightOf, Cond.instanceMethod yX0_rightOf, Cond.selects RX0 yX0_rightOf yX0_rightOf, Cond.code yX0_rightOf cX0_rightOf 2 (some .int), Cond.methodLink RX0 240 yX0_weightOf, Cond.instanceMethod yX0_weightOf, Cond.selects RX0 yX0_weightOf yX0_weightOf, Cond.code yX0_weightOf cX0_weightOf 2 (some .int), Cond.methodLink RX0 243 yX0_hindsight, Cond.instanceMethod yX0_hindsight, Cond.selects RX0 yX0_hindsight yX0_hindsight, Cond.code yX0_hindsight cX0_hindsight 2 (some .int), Cond.methodLink RX0 210 yX0_placeOf, Cond.instanceMethod yX0_placeOf]
def wsX0_digest_r8 : List Cond := [Cond.selects RX0 yX0_placeOf yX0_placeOf, Cond.code yX0_placeOf cX0_placeOf 2 (some .int), Cond.methodLink RX0 132 yX0_requireStudent, Cond.instanceMethod yX0_requireStudent, Cond.selects RX0 yX0_requireStudent yX0_requireStudent, Cond.code yX0_requireStudent cX0_requireStudent 2 none, Cond.methodLink RX0 213 yX0_passedBy, Cond.instanceMethod yX0_passedBy, Cond.selects RX0 yX0_passedBy yX0_passedBy, Cond.code yX0_passedBy cX0_passedBy 2 (some .int)]
def wsX0_digest : List Cond := .code yX0_digest cX0_digest 4 (some .long) :: ((wsX0_digest_r1 ++ (wsX0_digest_r2 ++ (wsX0_digest_r3 ++ (wsX0_digest_r4 ++ (wsX0_digest_r5 ++ (wsX0_digest_r6 ++ (wsX0_digest_r7 ++ wsX0_digest_r8))))))) ++ wsX00 ++ (vx_atS RX0 254 "java/lang/IndexOutOfBoundsException" ["java/lang/RuntimeException", "java/lang/Exception"]).filter goodWord)
def wsX1_init : List Cond := .code yX1_init cX1_init 1 none :: ([.methodLink RX1 1 objectInit, .instanceMethod objectInit, .code objectInit ⟨#[0xb1]⟩ 1 none, .arrayClass .boolean, .fieldLink RX1 9 "ExamGardenModel" "forks" "[Z", .arrayClass .int, .fieldLink RX1 13 "ExamGardenModel" "one" "[I", .fieldLink RX1 17 "ExamGardenModel" "other" "[I", .fieldLink RX1 20 "ExamGardenModel" "third" "[I", .arrayClass .long, .fieldLink RX1 23 "ExamGardenModel" "reach" "[J", .fieldLink RX1 27 "ExamGardenModel" "sure" "[I", .fieldLink RX1 30 "ExamGardenModel" "hopes" "[I", .fieldLink RX1 33 "ExamGardenModel" "stands" "[I", .fieldLink RX1 36 "ExamGardenModel" "passed" "[I", .fieldLink RX1 39 "ExamGardenModel" "ways" "[I"] ++ wsX10)
def wsX1_thrown : List Cond := .code yX1_thrown cX1_thrown 1 (some .int) :: ([.fieldLink RX1 42 "ExamGardenModel" "thrown" "I"] ++ wsX10)
def wsX1_no : List Cond := .code yX1_no cX1_no 2 (some .int) :: ([.fieldLink RX1 42 "ExamGardenModel" "thrown" "I"] ++ wsX10)
def wsX1_isNot : List Cond := .code yX1_isNot cX1_isNot 2 (some .boolean) :: ([.fieldLink RX1 42 "ExamGardenModel" "thrown" "I"] ++ wsX10)
def wsX1_ok : List Cond := .code yX1_ok cX1_ok 2 (some .int) :: ([.fieldLink RX1 42 "ExamGardenModel" "thrown" "I"] ++ wsX10)
def wsX1_isIn : List Cond := .code yX1_isIn cX1_isIn 3 (some .boolean) :: ([])
def wsX1_isPlace : List Cond := .code yX1_isPlace cX1_isPlace 2 (some .boolean) :: ([.fieldLink RX1 46 "ExamGardenModel" "places" "I", .methodLink RX1 49 yX1_isIn, .static yX1_isIn, .initialized RX1, .code yX1_isIn cX1_isIn 3 (some .boolean)] ++ wsX10)
def wsX1_isExamAt : List Cond := .code yX1_isExamAt cX1_isExamAt 2 (some .boolean) :: ([.fieldLink RX1 9 "ExamGardenModel" "forks" "[Z", .methodLink RX1 53 yX1_isPlace, .instanceMethod yX1_isPlace, .selects RX1 yX1_isPlace yX1_isPlace, .initialized RX1, .code yX1_isPlace cX1_isPlace 2 (some .boolean), .fieldLink RX1 46 "ExamGardenModel" "places" "I", .methodLink RX1 49 yX1_isIn, .static yX1_isIn, .code yX1_isIn cX1_isIn 3 (some .boolean)] ++ wsX10)
def wsX1_isForkAt : List Cond := .code yX1_isForkAt cX1_isForkAt 2 (some .boolean) :: ([.fieldLink RX1 9 "ExamGardenModel" "forks" "[Z", .methodLink RX1 53 yX1_isPlace, .instanceMethod yX1_isPlace, .selects RX1 yX1_isPlace yX1_isPlace, .initialized RX1, .code yX1_isPlace cX1_isPlace 2 (some .boolean), .fieldLink RX1 46 "ExamGardenModel" "places" "I", .methodLink RX1 49 yX1_isIn, .static yX1_isIn, .code yX1_isIn cX1_isIn 3 (some .boolean)] ++ wsX10)
def wsX1_isStudent : List Cond := .code yX1_isStudent cX1_isStudent 2 (some .boolean) :: ([.fieldLink RX1 57 "ExamGardenModel" "students" "I", .methodLink RX1 49 yX1_isIn, .static yX1_isIn, .initialized RX1, .code yX1_isIn cX1_isIn 3 (some .boolean)] ++ wsX10)
def wsX1_has : List Cond := .code yX1_has cX1_has 3 (some .boolean) :: ([.fieldLink RX1 23 "ExamGardenModel" "reach" "[J"] ++ wsX10)
def wsX1_table : List Cond := .code yX1_table cX1_table 3 none :: ([.fieldLink RX1 46 "ExamGardenModel" "places" "I", .fieldLink RX1 9 "ExamGardenModel" "forks" "[Z", .fieldLink RX1 20 "ExamGardenModel" "third" "[I", .fieldLink RX1 27 "ExamGardenModel" "sure" "[I", .fieldLink RX1 13 "ExamGardenModel" "one" "[I", .fieldLink RX1 17 "ExamGardenModel" "other" "[I", .methodLink RX1 60 Lib.Math.max.name, .static Lib.Math.max.name, .initialized "java/lang/Math", .code Lib.Math.max.name Lib.Math.max.code 2 (some .int), .fieldLink RX1 30 "ExamGardenModel" "hopes" "[I"] ++ wsX10)
def wsX1_riskOf : List Cond := .code yX1_riskOf cX1_riskOf 5 (some .int) :: ([.fieldLink RX1 17 "ExamGardenModel" "other" "[I", .fieldLink RX1 13 "ExamGardenModel" "one" "[I", .fieldLink RX1 30 "ExamGardenModel" "hopes" "[I", .fieldLink RX1 27 "ExamGardenModel" "sure" "[I", .methodLink RX1 60 Lib.Math.max.name, .static Lib.Math.max.name, .initialized "java/lang/Math", .code Lib.Math.max.name Lib.Math.max.code 2 (some .int), .fieldLink RX1 20 "ExamGardenModel" "third" "[I"] ++ wsX10)
def wsX1_turnsRight : List Cond := .code yX1_turnsRight cX1_turnsRight 2 (some .boolean) :: ([.methodLink RX1 66 yX1_riskOf, .instanceMethod yX1_riskOf, .selects RX1 yX1_riskOf yX1_riskOf, .initialized RX1, .code yX1_riskOf cX1_riskOf 5 (some .int), .fieldLink RX1 17 "ExamGardenModel" "other" "[I", .fieldLink RX1 13 "ExamGardenModel" "one" "[I", .fieldLink RX1 30 "ExamGardenModel" "hopes" "[I", .fieldLink RX1 27 "ExamGardenModel" "sure" "[I", .methodLink RX1 60 Lib.Math.max.name, .static Lib.Math.max.name, .initialized "java/lang/Math", .code Lib.Math.max.name Lib.Math.max.code 2 (some .int), .fieldLink RX1 20 "ExamGardenModel" "third" "[I"] ++ wsX10)
def wsX1_planned : List Cond := .code yX1_planned cX1_planned 2 (some .int) :: ([.fieldLink RX1 17 "ExamGardenModel" "other" "[I", .fieldLink RX1 13 "ExamGardenModel" "one" "[I", .methodLink RX1 70 yX1_turnsRight, .instanceMethod yX1_turnsRight, .selects RX1 yX1_turnsRight yX1_turnsRight, .initialized RX1, .code yX1_turnsRight cX1_turnsRight 2 (some .boolean), .methodLink RX1 66 yX1_riskOf, .instanceMethod yX1_riskOf, .selects RX1 yX1_riskOf yX1_riskOf, .code yX1_riskOf cX1_riskOf 5 (some .int), .fieldLink RX1 30 "ExamGardenModel" "hopes" "[I", .fieldLink RX1 27 "ExamGardenModel" "sure" "[I", .methodLink RX1 60 Lib.Math.max.name, .static Lib.Math.max.name, .initialized "java/lang/Math", .code Lib.Math.max.name Lib.Math.max.code 2 (some .int), .fieldLink RX1 20 "ExamGardenModel" "third" "[I"] ++ wsX10)
def wsX1_leads : List Cond := .code yX1_leads cX1_leads 3 (some .int) :: ([.fieldLink RX1 9 "ExamGardenModel" "forks" "[Z", .methodLink RX1 73 yX1_planned, .instanceMethod yX1_planned, .selects RX1 yX1_planned yX1_planned, .initialized RX1, .code yX1_planned cX1_planned 2 (some .int), .fieldLink RX1 17 "ExamGardenModel" "other" "[I", .fieldLink RX1 13 "ExamGardenModel" "one" "[I", .methodLink RX1 70 yX1_turnsRight, .instanceMethod yX1_turnsRight, .selects RX1 yX1_turnsRight yX1_turnsRight, .code yX1_turnsRight cX1_turnsRight 2 (some .boolean), .methodLink RX1 66 yX1_riskOf, .instanceMethod yX1_riskOf, .selects RX1 yX1_riskOf yX1_riskOf, .code yX1_riskOf cX1_riskOf 5 (some .int), .fieldLink RX1 30 "ExamGardenModel" "hopes" "[I", .fieldLink RX1 27 "ExamGardenModel" "sure" "[I", .methodLink RX1 60 Lib.Math.max.name, .static Lib.Math.max.name, .initialized "java/lang/Math", .code Lib.Math.max.name Lib.Math.max.code 2 (some .int), .fieldLink RX1 20 "ExamGardenModel" "third" "[I"] ++ wsX10)
def wsX1_examsOf : List Cond := .code yX1_examsOf cX1_examsOf 4 (some .int) :: ([.fieldLink RX1 9 "ExamGardenModel" "forks" "[Z", .methodLink RX1 77 yX1_has, .instanceMethod yX1_has, .selects RX1 yX1_has yX1_has, .initialized RX1, .code yX1_has cX1_has 3 (some .boolean), .fieldLink RX1 23 "ExamGardenModel" "reach" "[J"] ++ wsX10)
def wsX1_riskiest : List Cond := .code yX1_riskiest cX1_riskiest 5 (some .int) :: ([.fieldLink RX1 46 "ExamGardenModel" "places" "I", .fieldLink RX1 9 "ExamGardenModel" "forks" "[Z", .methodLink RX1 81 Lib.Math.min.name, .static Lib.Math.min.name, .initialized "java/lang/Math", .code Lib.Math.min.name Lib.Math.min.code 2 (some .int), .methodLink RX1 66 yX1_riskOf, .instanceMethod yX1_riskOf, .selects RX1 yX1_riskOf yX1_riskOf, .initialized RX1, .code yX1_riskOf cX1_riskOf 5 (some .int), .fieldLink RX1 17 "ExamGardenModel" "other" "[I", .fieldLink RX1 13 "ExamGardenModel" "one" "[I", .fieldLink RX1 30 "ExamGardenModel" "hopes" "[I", .fieldLink RX1 27 "ExamGardenModel" "sure" "[I", .methodLink RX1 60 Lib.Math.max.name, .static Lib.Math.max.name, .code Lib.Math.max.name Lib.Math.max.code 2 (some .int), .fieldLink RX1 20 "ExamGardenModel" "third" "[I"] ++ wsX10)
def wsX1_behind : List Cond := .code yX1_behind cX1_behind 4 (some .int) :: ([.fieldLink RX1 9 "ExamGardenModel" "forks" "[Z", .fieldLink RX1 20 "ExamGardenModel" "third" "[I", .methodLink RX1 60 Lib.Math.max.name, .static Lib.Math.max.name, .initialized "java/lang/Math", .code Lib.Math.max.name Lib.Math.max.code 2 (some .int), .methodLink RX1 77 yX1_has, .instanceMethod yX1_has, .selects RX1 yX1_has yX1_has, .initialized RX1, .code yX1_has cX1_has 3 (some .boolean), .fieldLink RX1 23 "ExamGardenModel" "reach" "[J"] ++ wsX10)
def wsX1_isKnown : List Cond := .code yX1_isKnown cX1_isKnown 2 (some .boolean) :: ([.fieldLink RX1 9 "ExamGardenModel" "forks" "[Z", .fieldLink RX1 33 "ExamGardenModel" "stands" "[I", .fieldLink RX1 20 "ExamGardenModel" "third" "[I"] ++ wsX10)
def wsX1_regret : List Cond := .code yX1_regret cX1_regret 4 (some .int) :: ([.fieldLink RX1 39 "ExamGardenModel" "ways" "[I", .fieldLink RX1 20 "ExamGardenModel" "third" "[I", .fieldLink RX1 33 "ExamGardenModel" "stands" "[I", .methodLink RX1 60 Lib.Math.max.name, .static Lib.Math.max.name, .initialized "java/lang/Math", .code Lib.Math.max.name Lib.Math.max.code 2 (some .int), .methodLink RX1 84 yX1_behind, .instanceMethod yX1_behind, .selects RX1 yX1_behind yX1_behind, .initialized RX1, .code yX1_behind cX1_behind 4 (some .int), .fieldLink RX1 9 "ExamGardenModel" "forks" "[Z", .methodLink RX1 77 yX1_has, .instanceMethod yX1_has, .selects RX1 yX1_has yX1_has, .code yX1_has cX1_has 3 (some .boolean), .fieldLink RX1 23 "ExamGardenModel" "reach" "[J"] ++ wsX10)
def wsX1_regrets : List Cond := .code yX1_regrets cX1_regrets 4 (some .int) :: ([.fieldLink RX1 36 "ExamGardenModel" "passed" "[I", .methodLink RX1 87 yX1_regret, .instanceMethod yX1_regret, .selects RX1 yX1_regret yX1_regret, .initialized RX1, .code yX1_regret cX1_regret 4 (some .int), .fieldLink RX1 39 "ExamGardenModel" "ways" "[I", .fieldLink RX1 20 "ExamGardenModel" "third" "[I", .fieldLink RX1 33 "ExamGardenModel" "stands" "[I", .methodLink RX1 60 Lib.Math.max.name, .static Lib.Math.max.name, .initialized "java/lang/Math", .code Lib.Math.max.name Lib.Math.max.code 2 (some .int), .methodLink RX1 84 yX1_behind, .instanceMethod yX1_behind, .selects RX1 yX1_behind yX1_behind, .code yX1_behind cX1_behind 4 (some .int), .fieldLink RX1 9 "ExamGardenModel" "forks" "[Z", .methodLink RX1 77 yX1_has, .instanceMethod yX1_has, .selects RX1 yX1_has yX1_has, .code yX1_has cX1_has 3 (some .boolean), .fieldLink RX1 23 "ExamGardenModel" "reach" "[J"] ++ wsX10)
def wsX1_allRegrets_r1 : List Cond := [Cond.fieldLink RX1 57 "ExamGardenModel" "students" "I", Cond.methodLink RX1 90 yX1_isKnown, Cond.instanceMethod yX1_isKnown, Cond.selects RX1 yX1_isKnown yX1_isKnown, Cond.initialized RX1, Cond.code yX1_isKnown cX1_isKnown 2 (some .boolean), Cond.fieldLink RX1 9 "ExamGardenModel" "forks" "[Z", Cond.fieldLink RX1 33 "ExamGardenModel" "stands" "[I", Cond.fieldLink RX1 20 "ExamGardenModel" "third" "[I", Cond.methodLink RX1 93 yX1_regrets, Cond.instanceMethod yX1_regrets, Cond.selects RX1 yX1_regrets yX1_regrets, Cond.code yX1_regrets cX1_regrets 4 (some .int), Cond.fieldLink RX1 36 "ExamGardenModel" "passed" "[I", Cond.methodLink RX1 87 yX1_regret, Cond.instanceMethod yX1_regret, Cond.selects RX1 yX1_regret yX1_regret, Cond.code yX1_regret cX1_regret 4 (some .int), Cond.fieldLink RX1 39 "ExamGardenModel" "ways" "[I", Cond.methodLink RX1 60 Lib.Math.max.name, Cond.static Lib.Math.max.name, Cond.initialized "java/lang/Math", Cond.code Lib.Math.max.name Lib.Math.max.code 2 (some .int), Cond.methodLink RX1 84 yX1_behind]
def wsX1_allRegrets_r2 : List Cond := [Cond.instanceMethod yX1_behind, Cond.selects RX1 yX1_behind yX1_behind, Cond.code yX1_behind cX1_behind 4 (some .int), Cond.methodLink RX1 77 yX1_has, Cond.instanceMethod yX1_has, Cond.selects RX1 yX1_has yX1_has, Cond.code yX1_has cX1_has 3 (some .boolean), Cond.fieldLink RX1 23 "ExamGardenModel" "reach" "[J"]
def wsX1_allRegrets : List Cond := .code yX1_allRegrets cX1_allRegrets 3 (some .int) :: ((wsX1_allRegrets_r1 ++ wsX1_allRegrets_r2) ++ wsX10)
def wsX1_addExam : List Cond := .code yX1_addExam cX1_addExam 3 (some .int) :: ([.fieldLink RX1 42 "ExamGardenModel" "thrown" "I", .fieldLink RX1 46 "ExamGardenModel" "places" "I", .fieldLink RX1 13 "ExamGardenModel" "one" "[I", .fieldLink RX1 17 "ExamGardenModel" "other" "[I", .fieldLink RX1 20 "ExamGardenModel" "third" "[I", .fieldLink RX1 23 "ExamGardenModel" "reach" "[J", .methodLink RX1 96 yX1_no, .instanceMethod yX1_no, .selects RX1 yX1_no yX1_no, .initialized RX1, .code yX1_no cX1_no 2 (some .int)] ++ wsX10)
def wsX1_addFork : List Cond := .code yX1_addFork cX1_addFork 4 (some .int) :: ([.fieldLink RX1 42 "ExamGardenModel" "thrown" "I", .fieldLink RX1 46 "ExamGardenModel" "places" "I", .fieldLink RX1 9 "ExamGardenModel" "forks" "[Z", .fieldLink RX1 13 "ExamGardenModel" "one" "[I", .fieldLink RX1 17 "ExamGardenModel" "other" "[I", .fieldLink RX1 20 "ExamGardenModel" "third" "[I", .fieldLink RX1 23 "ExamGardenModel" "reach" "[J", .methodLink RX1 53 yX1_isPlace, .instanceMethod yX1_isPlace, .selects RX1 yX1_isPlace yX1_isPlace, .initialized RX1, .code yX1_isPlace cX1_isPlace 2 (some .boolean), .methodLink RX1 49 yX1_isIn, .static yX1_isIn, .code yX1_isIn cX1_isIn 3 (some .boolean), .methodLink RX1 96 yX1_no, .instanceMethod yX1_no, .selects RX1 yX1_no yX1_no, .code yX1_no cX1_no 2 (some .int)] ++ wsX10)
def wsX1_gradedNow : List Cond := .code yX1_gradedNow cX1_gradedNow 3 (some .int) :: ([.fieldLink RX1 46 "ExamGardenModel" "places" "I", .fieldLink RX1 9 "ExamGardenModel" "forks" "[Z", .fieldLink RX1 20 "ExamGardenModel" "third" "[I"] ++ wsX10)
def wsX1_grade_r1 : List Cond := [Cond.fieldLink RX1 42 "ExamGardenModel" "thrown" "I", Cond.fieldLink RX1 13 "ExamGardenModel" "one" "[I", Cond.fieldLink RX1 17 "ExamGardenModel" "other" "[I", Cond.fieldLink RX1 20 "ExamGardenModel" "third" "[I", Cond.methodLink RX1 99 yX1_isExamAt, Cond.instanceMethod yX1_isExamAt, Cond.selects RX1 yX1_isExamAt yX1_isExamAt, Cond.initialized RX1, Cond.code yX1_isExamAt cX1_isExamAt 2 (some .boolean), Cond.fieldLink RX1 9 "ExamGardenModel" "forks" "[Z", Cond.methodLink RX1 53 yX1_isPlace, Cond.instanceMethod yX1_isPlace, Cond.selects RX1 yX1_isPlace yX1_isPlace, Cond.code yX1_isPlace cX1_isPlace 2 (some .boolean), Cond.fieldLink RX1 46 "ExamGardenModel" "places" "I", Cond.methodLink RX1 49 yX1_isIn, Cond.static yX1_isIn, Cond.code yX1_isIn cX1_isIn 3 (some .boolean), Cond.methodLink RX1 96 yX1_no, Cond.instanceMethod yX1_no, Cond.selects RX1 yX1_no yX1_no, Cond.code yX1_no cX1_no 2 (some .int), Cond.methodLink RX1 102 yX1_gradedNow, Cond.instanceMethod yX1_gradedNow]
def wsX1_grade_r2 : List Cond := [Cond.selects RX1 yX1_gradedNow yX1_gradedNow, Cond.code yX1_gradedNow cX1_gradedNow 3 (some .int)]
def wsX1_grade : List Cond := .code yX1_grade cX1_grade 3 (some .int) :: ((wsX1_grade_r1 ++ wsX1_grade_r2) ++ wsX10)
def wsX1_weigh : List Cond := .code yX1_weigh cX1_weigh 4 (some .int) :: ([.fieldLink RX1 42 "ExamGardenModel" "thrown" "I", .fieldLink RX1 20 "ExamGardenModel" "third" "[I", .methodLink RX1 106 yX1_isForkAt, .instanceMethod yX1_isForkAt, .selects RX1 yX1_isForkAt yX1_isForkAt, .initialized RX1, .code yX1_isForkAt cX1_isForkAt 2 (some .boolean), .fieldLink RX1 9 "ExamGardenModel" "forks" "[Z", .methodLink RX1 53 yX1_isPlace, .instanceMethod yX1_isPlace, .selects RX1 yX1_isPlace yX1_isPlace, .code yX1_isPlace cX1_isPlace 2 (some .boolean), .fieldLink RX1 46 "ExamGardenModel" "places" "I", .methodLink RX1 49 yX1_isIn, .static yX1_isIn, .code yX1_isIn cX1_isIn 3 (some .boolean), .methodLink RX1 96 yX1_no, .instanceMethod yX1_no, .selects RX1 yX1_no yX1_no, .code yX1_no cX1_no 2 (some .int)] ++ wsX10)
def wsX1_enroll : List Cond := .code yX1_enroll cX1_enroll 2 (some .int) :: ([.fieldLink RX1 42 "ExamGardenModel" "thrown" "I", .fieldLink RX1 57 "ExamGardenModel" "students" "I", .fieldLink RX1 33 "ExamGardenModel" "stands" "[I", .methodLink RX1 53 yX1_isPlace, .instanceMethod yX1_isPlace, .selects RX1 yX1_isPlace yX1_isPlace, .initialized RX1, .code yX1_isPlace cX1_isPlace 2 (some .boolean), .fieldLink RX1 46 "ExamGardenModel" "places" "I", .methodLink RX1 49 yX1_isIn, .static yX1_isIn, .code yX1_isIn cX1_isIn 3 (some .boolean), .methodLink RX1 96 yX1_no, .instanceMethod yX1_no, .selects RX1 yX1_no yX1_no, .code yX1_no cX1_no 2 (some .int)] ++ wsX10)
def wsX1_go : List Cond := .code yX1_go cX1_go 3 none :: ([.fieldLink RX1 39 "ExamGardenModel" "ways" "[I", .fieldLink RX1 36 "ExamGardenModel" "passed" "[I", .fieldLink RX1 33 "ExamGardenModel" "stands" "[I"] ++ wsX10)
def wsX1_turn : List Cond := .code yX1_turn cX1_turn 4 (some .int) :: ([.fieldLink RX1 42 "ExamGardenModel" "thrown" "I", .fieldLink RX1 33 "ExamGardenModel" "stands" "[I", .fieldLink RX1 9 "ExamGardenModel" "forks" "[Z", .fieldLink RX1 17 "ExamGardenModel" "other" "[I", .fieldLink RX1 13 "ExamGardenModel" "one" "[I", .methodLink RX1 109 yX1_isStudent, .instanceMethod yX1_isStudent, .selects RX1 yX1_isStudent yX1_isStudent, .initialized RX1, .code yX1_isStudent cX1_isStudent 2 (some .boolean), .fieldLink RX1 57 "ExamGardenModel" "students" "I", .methodLink RX1 49 yX1_isIn, .static yX1_isIn, .code yX1_isIn cX1_isIn 3 (some .boolean), .methodLink RX1 96 yX1_no, .instanceMethod yX1_no, .selects RX1 yX1_no yX1_no, .code yX1_no cX1_no 2 (some .int), .methodLink RX1 112 yX1_go, .instanceMethod yX1_go, .selects RX1 yX1_go yX1_go, .code yX1_go cX1_go 3 none, .fieldLink RX1 39 "ExamGardenModel" "ways" "[I", .fieldLink RX1 36 "ExamGardenModel" "passed" "[I"] ++ wsX10)
def wsX1_goBack : List Cond := .code yX1_goBack cX1_goBack 2 (some .int) :: ([.fieldLink RX1 42 "ExamGardenModel" "thrown" "I", .fieldLink RX1 36 "ExamGardenModel" "passed" "[I", .fieldLink RX1 33 "ExamGardenModel" "stands" "[I", .fieldLink RX1 39 "ExamGardenModel" "ways" "[I", .methodLink RX1 109 yX1_isStudent, .instanceMethod yX1_isStudent, .selects RX1 yX1_isStudent yX1_isStudent, .initialized RX1, .code yX1_isStudent cX1_isStudent 2 (some .boolean), .fieldLink RX1 57 "ExamGardenModel" "students" "I", .methodLink RX1 49 yX1_isIn, .static yX1_isIn, .code yX1_isIn cX1_isIn 3 (some .boolean), .methodLink RX1 96 yX1_no, .instanceMethod yX1_no, .selects RX1 yX1_no yX1_no, .code yX1_no cX1_no 2 (some .int)] ++ wsX10)
def wsX1_follow_r1 : List Cond := [Cond.fieldLink RX1 42 "ExamGardenModel" "thrown" "I", Cond.fieldLink RX1 36 "ExamGardenModel" "passed" "[I", Cond.fieldLink RX1 9 "ExamGardenModel" "forks" "[Z", Cond.fieldLink RX1 33 "ExamGardenModel" "stands" "[I", Cond.methodLink RX1 109 yX1_isStudent, Cond.instanceMethod yX1_isStudent, Cond.selects RX1 yX1_isStudent yX1_isStudent, Cond.initialized RX1, Cond.code yX1_isStudent cX1_isStudent 2 (some .boolean), Cond.fieldLink RX1 57 "ExamGardenModel" "students" "I", Cond.methodLink RX1 49 yX1_isIn, Cond.static yX1_isIn, Cond.code yX1_isIn cX1_isIn 3 (some .boolean), Cond.methodLink RX1 96 yX1_no, Cond.instanceMethod yX1_no, Cond.selects RX1 yX1_no yX1_no, Cond.code yX1_no cX1_no 2 (some .int), Cond.methodLink RX1 116 yX1_table, Cond.instanceMethod yX1_table, Cond.selects RX1 yX1_table yX1_table, Cond.code yX1_table cX1_table 3 none, Cond.fieldLink RX1 46 "ExamGardenModel" "places" "I", Cond.fieldLink RX1 20 "ExamGardenModel" "third" "[I", Cond.fieldLink RX1 27 "ExamGardenModel" "sure" "[I"]
def wsX1_follow_r2 : List Cond := [Cond.fieldLink RX1 13 "ExamGardenModel" "one" "[I", Cond.fieldLink RX1 17 "ExamGardenModel" "other" "[I", Cond.methodLink RX1 60 Lib.Math.max.name, Cond.static Lib.Math.max.name, Cond.initialized "java/lang/Math", Cond.code Lib.Math.max.name Lib.Math.max.code 2 (some .int), Cond.fieldLink RX1 30 "ExamGardenModel" "hopes" "[I", Cond.methodLink RX1 73 yX1_planned, Cond.instanceMethod yX1_planned, Cond.selects RX1 yX1_planned yX1_planned, Cond.code yX1_planned cX1_planned 2 (some .int), Cond.methodLink RX1 70 yX1_turnsRight, Cond.instanceMethod yX1_turnsRight, Cond.selects RX1 yX1_turnsRight yX1_turnsRight, Cond.code yX1_turnsRight cX1_turnsRight 2 (some .boolean), Cond.methodLink RX1 66 yX1_riskOf, Cond.instanceMethod yX1_riskOf, Cond.selects RX1 yX1_riskOf yX1_riskOf, Cond.code yX1_riskOf cX1_riskOf 5 (some .int), Cond.methodLink RX1 112 yX1_go, Cond.instanceMethod yX1_go, Cond.selects RX1 yX1_go yX1_go, Cond.code yX1_go cX1_go 3 none, Cond.fieldLink RX1 39 "ExamGardenModel" "ways" "[I"]
def wsX1_follow : List Cond := .code yX1_follow cX1_follow 3 (some .int) :: ((wsX1_follow_r1 ++ wsX1_follow_r2) ++ wsX10)
def wsX1_places : List Cond := .code yX1_places cX1_places 1 (some .int) :: ([.fieldLink RX1 46 "ExamGardenModel" "places" "I", .methodLink RX1 119 yX1_ok, .instanceMethod yX1_ok, .selects RX1 yX1_ok yX1_ok, .initialized RX1, .code yX1_ok cX1_ok 2 (some .int), .fieldLink RX1 42 "ExamGardenModel" "thrown" "I"] ++ wsX10)
def wsX1_examsNow : List Cond := .code yX1_examsNow cX1_examsNow 3 (some .int) :: ([.fieldLink RX1 46 "ExamGardenModel" "places" "I", .fieldLink RX1 9 "ExamGardenModel" "forks" "[Z"] ++ wsX10)
def wsX1_exams : List Cond := .code yX1_exams cX1_exams 1 (some .int) :: ([.methodLink RX1 122 yX1_examsNow, .instanceMethod yX1_examsNow, .selects RX1 yX1_examsNow yX1_examsNow, .initialized RX1, .code yX1_examsNow cX1_examsNow 3 (some .int), .fieldLink RX1 46 "ExamGardenModel" "places" "I", .fieldLink RX1 9 "ExamGardenModel" "forks" "[Z", .methodLink RX1 119 yX1_ok, .instanceMethod yX1_ok, .selects RX1 yX1_ok yX1_ok, .code yX1_ok cX1_ok 2 (some .int), .fieldLink RX1 42 "ExamGardenModel" "thrown" "I"] ++ wsX10)
def wsX1_graded : List Cond := .code yX1_graded cX1_graded 1 (some .int) :: ([.methodLink RX1 102 yX1_gradedNow, .instanceMethod yX1_gradedNow, .selects RX1 yX1_gradedNow yX1_gradedNow, .initialized RX1, .code yX1_gradedNow cX1_gradedNow 3 (some .int), .fieldLink RX1 46 "ExamGardenModel" "places" "I", .fieldLink RX1 9 "ExamGardenModel" "forks" "[Z", .fieldLink RX1 20 "ExamGardenModel" "third" "[I", .methodLink RX1 119 yX1_ok, .instanceMethod yX1_ok, .selects RX1 yX1_ok yX1_ok, .code yX1_ok cX1_ok 2 (some .int), .fieldLink RX1 42 "ExamGardenModel" "thrown" "I"] ++ wsX10)
def wsX1_students : List Cond := .code yX1_students cX1_students 1 (some .int) :: ([.fieldLink RX1 57 "ExamGardenModel" "students" "I", .methodLink RX1 119 yX1_ok, .instanceMethod yX1_ok, .selects RX1 yX1_ok yX1_ok, .initialized RX1, .code yX1_ok cX1_ok 2 (some .int), .fieldLink RX1 42 "ExamGardenModel" "thrown" "I"] ++ wsX10)
def wsX1_atEnds : List Cond := .code yX1_atEnds cX1_atEnds 3 (some .int) :: ([.fieldLink RX1 57 "ExamGardenModel" "students" "I", .fieldLink RX1 9 "ExamGardenModel" "forks" "[Z", .fieldLink RX1 33 "ExamGardenModel" "stands" "[I"] ++ wsX10)
def wsX1_atExams : List Cond := .code yX1_atExams cX1_atExams 1 (some .int) :: ([.methodLink RX1 125 yX1_atEnds, .instanceMethod yX1_atEnds, .selects RX1 yX1_atEnds yX1_atEnds, .initialized RX1, .code yX1_atEnds cX1_atEnds 3 (some .int), .fieldLink RX1 57 "ExamGardenModel" "students" "I", .fieldLink RX1 9 "ExamGardenModel" "forks" "[Z", .fieldLink RX1 33 "ExamGardenModel" "stands" "[I", .methodLink RX1 119 yX1_ok, .instanceMethod yX1_ok, .selects RX1 yX1_ok yX1_ok, .code yX1_ok cX1_ok 2 (some .int), .fieldLink RX1 42 "ExamGardenModel" "thrown" "I"] ++ wsX10)
def wsX1_isExam : List Cond := .code yX1_isExam cX1_isExam 2 (some .boolean) :: ([.fieldLink RX1 42 "ExamGardenModel" "thrown" "I", .fieldLink RX1 9 "ExamGardenModel" "forks" "[Z", .methodLink RX1 53 yX1_isPlace, .instanceMethod yX1_isPlace, .selects RX1 yX1_isPlace yX1_isPlace, .initialized RX1, .code yX1_isPlace cX1_isPlace 2 (some .boolean), .fieldLink RX1 46 "ExamGardenModel" "places" "I", .methodLink RX1 49 yX1_isIn, .static yX1_isIn, .code yX1_isIn cX1_isIn 3 (some .boolean), .methodLink RX1 128 yX1_isNot, .instanceMethod yX1_isNot, .selects RX1 yX1_isNot yX1_isNot, .code yX1_isNot cX1_isNot 2 (some .boolean)] ++ wsX10)
def wsX1_isGraded : List Cond := .code yX1_isGraded cX1_isGraded 2 (some .boolean) :: ([.fieldLink RX1 42 "ExamGardenModel" "thrown" "I", .fieldLink RX1 20 "ExamGardenModel" "third" "[I", .methodLink RX1 99 yX1_isExamAt, .instanceMethod yX1_isExamAt, .selects RX1 yX1_isExamAt yX1_isExamAt, .initialized RX1, .code yX1_isExamAt cX1_isExamAt 2 (some .boolean), .fieldLink RX1 9 "ExamGardenModel" "forks" "[Z", .methodLink RX1 53 yX1_isPlace, .instanceMethod yX1_isPlace, .selects RX1 yX1_isPlace yX1_isPlace, .code yX1_isPlace cX1_isPlace 2 (some .boolean), .fieldLink RX1 46 "ExamGardenModel" "places" "I", .methodLink RX1 49 yX1_isIn, .static yX1_isIn, .code yX1_isIn cX1_isIn 3 (some .boolean), .methodLink RX1 128 yX1_isNot, .instanceMethod yX1_isNot, .selects RX1 yX1_isNot yX1_isNot, .code yX1_isNot cX1_isNot 2 (some .boolean)] ++ wsX10)
def wsX1_gradeOf : List Cond := .code yX1_gradeOf cX1_gradeOf 2 (some .int) :: ([.fieldLink RX1 42 "ExamGardenModel" "thrown" "I", .fieldLink RX1 20 "ExamGardenModel" "third" "[I", .methodLink RX1 99 yX1_isExamAt, .instanceMethod yX1_isExamAt, .selects RX1 yX1_isExamAt yX1_isExamAt, .initialized RX1, .code yX1_isExamAt cX1_isExamAt 2 (some .boolean), .fieldLink RX1 9 "ExamGardenModel" "forks" "[Z", .methodLink RX1 53 yX1_isPlace, .instanceMethod yX1_isPlace, .selects RX1 yX1_isPlace yX1_isPlace, .code yX1_isPlace cX1_isPlace 2 (some .boolean), .fieldLink RX1 46 "ExamGardenModel" "places" "I", .methodLink RX1 49 yX1_isIn, .static yX1_isIn, .code yX1_isIn cX1_isIn 3 (some .boolean), .methodLink RX1 96 yX1_no, .instanceMethod yX1_no, .selects RX1 yX1_no yX1_no, .code yX1_no cX1_no 2 (some .int)] ++ wsX10)
def wsX1_ofFork : List Cond := .code yX1_ofFork cX1_ofFork 3 (some .int) :: ([.fieldLink RX1 42 "ExamGardenModel" "thrown" "I", .methodLink RX1 106 yX1_isForkAt, .instanceMethod yX1_isForkAt, .selects RX1 yX1_isForkAt yX1_isForkAt, .initialized RX1, .code yX1_isForkAt cX1_isForkAt 2 (some .boolean), .fieldLink RX1 9 "ExamGardenModel" "forks" "[Z", .methodLink RX1 53 yX1_isPlace, .instanceMethod yX1_isPlace, .selects RX1 yX1_isPlace yX1_isPlace, .code yX1_isPlace cX1_isPlace 2 (some .boolean), .fieldLink RX1 46 "ExamGardenModel" "places" "I", .methodLink RX1 49 yX1_isIn, .static yX1_isIn, .code yX1_isIn cX1_isIn 3 (some .boolean), .methodLink RX1 96 yX1_no, .instanceMethod yX1_no, .selects RX1 yX1_no yX1_no, .code yX1_no cX1_no 2 (some .int)] ++ wsX10)
def wsX1_leftOf : List Cond := .code yX1_leftOf cX1_leftOf 2 (some .int) :: ([.fieldLink RX1 13 "ExamGardenModel" "one" "[I", .methodLink RX1 131 yX1_ofFork, .instanceMethod yX1_ofFork, .selects RX1 yX1_ofFork yX1_ofFork, .initialized RX1, .code yX1_ofFork cX1_ofFork 3 (some .int), .fieldLink RX1 42 "ExamGardenModel" "thrown" "I", .methodLink RX1 106 yX1_isForkAt, .instanceMethod yX1_isForkAt, .selects RX1 yX1_isForkAt yX1_isForkAt, .code yX1_isForkAt cX1_isForkAt 2 (some .boolean), .fieldLink RX1 9 "ExamGardenModel" "forks" "[Z", .methodLink RX1 53 yX1_isPlace, .instanceMethod yX1_isPlace, .selects RX1 yX1_isPlace yX1_isPlace, .code yX1_isPlace cX1_isPlace 2 (some .boolean), .fieldLink RX1 46 "ExamGardenModel" "places" "I", .methodLink RX1 49 yX1_isIn, .static yX1_isIn, .code yX1_isIn cX1_isIn 3 (some .boolean), .methodLink RX1 96 yX1_no, .instanceMethod yX1_no, .selects RX1 yX1_no yX1_no, .code yX1_no cX1_no 2 (some .int)] ++ wsX10)
def wsX1_rightOf : List Cond := .code yX1_rightOf cX1_rightOf 2 (some .int) :: ([.fieldLink RX1 17 "ExamGardenModel" "other" "[I", .methodLink RX1 131 yX1_ofFork, .instanceMethod yX1_ofFork, .selects RX1 yX1_ofFork yX1_ofFork, .initialized RX1, .code yX1_ofFork cX1_ofFork 3 (some .int), .fieldLink RX1 42 "ExamGardenModel" "thrown" "I", .methodLink RX1 106 yX1_isForkAt, .instanceMethod yX1_isForkAt, .selects RX1 yX1_isForkAt yX1_isForkAt, .code yX1_isForkAt cX1_isForkAt 2 (some .boolean), .fieldLink RX1 9 "ExamGardenModel" "forks" "[Z", .methodLink RX1 53 yX1_isPlace, .instanceMethod yX1_isPlace, .selects RX1 yX1_isPlace yX1_isPlace, .code yX1_isPlace cX1_isPlace 2 (some .boolean), .fieldLink RX1 46 "ExamGardenModel" "places" "I", .methodLink RX1 49 yX1_isIn, .static yX1_isIn, .code yX1_isIn cX1_isIn 3 (some .boolean), .methodLink RX1 96 yX1_no, .instanceMethod yX1_no, .selects RX1 yX1_no yX1_no, .code yX1_no cX1_no 2 (some .int)] ++ wsX10)
def wsX1_weightOf : List Cond := .code yX1_weightOf cX1_weightOf 2 (some .int) :: ([.fieldLink RX1 20 "ExamGardenModel" "third" "[I", .methodLink RX1 131 yX1_ofFork, .instanceMethod yX1_ofFork, .selects RX1 yX1_ofFork yX1_ofFork, .initialized RX1, .code yX1_ofFork cX1_ofFork 3 (some .int), .fieldLink RX1 42 "ExamGardenModel" "thrown" "I", .methodLink RX1 106 yX1_isForkAt, .instanceMethod yX1_isForkAt, .selects RX1 yX1_isForkAt yX1_isForkAt, .code yX1_isForkAt cX1_isForkAt 2 (some .boolean), .fieldLink RX1 9 "ExamGardenModel" "forks" "[Z", .methodLink RX1 53 yX1_isPlace, .instanceMethod yX1_isPlace, .selects RX1 yX1_isPlace yX1_isPlace, .code yX1_isPlace cX1_isPlace 2 (some .boolean), .fieldLink RX1 46 "ExamGardenModel" "places" "I", .methodLink RX1 49 yX1_isIn, .static yX1_isIn, .code yX1_isIn cX1_isIn 3 (some .boolean), .methodLink RX1 96 yX1_no, .instanceMethod yX1_no, .selects RX1 yX1_no yX1_no, .code yX1_no cX1_no 2 (some .int)] ++ wsX10)
def wsX1_ofStudent : List Cond := .code yX1_ofStudent cX1_ofStudent 3 (some .int) :: ([.fieldLink RX1 42 "ExamGardenModel" "thrown" "I", .methodLink RX1 109 yX1_isStudent, .instanceMethod yX1_isStudent, .selects RX1 yX1_isStudent yX1_isStudent, .initialized RX1, .code yX1_isStudent cX1_isStudent 2 (some .boolean), .fieldLink RX1 57 "ExamGardenModel" "students" "I", .methodLink RX1 49 yX1_isIn, .static yX1_isIn, .code yX1_isIn cX1_isIn 3 (some .boolean), .methodLink RX1 96 yX1_no, .instanceMethod yX1_no, .selects RX1 yX1_no yX1_no, .code yX1_no cX1_no 2 (some .int)] ++ wsX10)
def wsX1_placeOf : List Cond := .code yX1_placeOf cX1_placeOf 2 (some .int) :: ([.fieldLink RX1 33 "ExamGardenModel" "stands" "[I", .methodLink RX1 135 yX1_ofStudent, .instanceMethod yX1_ofStudent, .selects RX1 yX1_ofStudent yX1_ofStudent, .initialized RX1, .code yX1_ofStudent cX1_ofStudent 3 (some .int), .fieldLink RX1 42 "ExamGardenModel" "thrown" "I", .methodLink RX1 109 yX1_isStudent, .instanceMethod yX1_isStudent, .selects RX1 yX1_isStudent yX1_isStudent, .code yX1_isStudent cX1_isStudent 2 (some .boolean), .fieldLink RX1 57 "ExamGardenModel" "students" "I", .methodLink RX1 49 yX1_isIn, .static yX1_isIn, .code yX1_isIn cX1_isIn 3 (some .boolean), .methodLink RX1 96 yX1_no, .instanceMethod yX1_no, .selects RX1 yX1_no yX1_no, .code yX1_no cX1_no 2 (some .int)] ++ wsX10)
def wsX1_passedBy : List Cond := .code yX1_passedBy cX1_passedBy 2 (some .int) :: ([.fieldLink RX1 36 "ExamGardenModel" "passed" "[I", .methodLink RX1 135 yX1_ofStudent, .instanceMethod yX1_ofStudent, .selects RX1 yX1_ofStudent yX1_ofStudent, .initialized RX1, .code yX1_ofStudent cX1_ofStudent 3 (some .int), .fieldLink RX1 42 "ExamGardenModel" "thrown" "I", .methodLink RX1 109 yX1_isStudent, .instanceMethod yX1_isStudent, .selects RX1 yX1_isStudent yX1_isStudent, .code yX1_isStudent cX1_isStudent 2 (some .boolean), .fieldLink RX1 57 "ExamGardenModel" "students" "I", .methodLink RX1 49 yX1_isIn, .static yX1_isIn, .code yX1_isIn cX1_isIn 3 (some .boolean), .methodLink RX1 96 yX1_no, .instanceMethod yX1_no, .selects RX1 yX1_no yX1_no, .code yX1_no cX1_no 2 (some .int)] ++ wsX10)
def wsX1_ofPlace_r1 : List Cond := [Cond.fieldLink RX1 42 "ExamGardenModel" "thrown" "I", Cond.methodLink RX1 116 yX1_table, Cond.instanceMethod yX1_table, Cond.selects RX1 yX1_table yX1_table, Cond.initialized RX1, Cond.code yX1_table cX1_table 3 none, Cond.fieldLink RX1 46 "ExamGardenModel" "places" "I", Cond.fieldLink RX1 9 "ExamGardenModel" "forks" "[Z", Cond.fieldLink RX1 20 "ExamGardenModel" "third" "[I", Cond.fieldLink RX1 27 "ExamGardenModel" "sure" "[I", Cond.fieldLink RX1 13 "ExamGardenModel" "one" "[I", Cond.fieldLink RX1 17 "ExamGardenModel" "other" "[I", Cond.methodLink RX1 60 Lib.Math.max.name, Cond.static Lib.Math.max.name, Cond.initialized "java/lang/Math", Cond.code Lib.Math.max.name Lib.Math.max.code 2 (some .int), Cond.fieldLink RX1 30 "ExamGardenModel" "hopes" "[I", Cond.methodLink RX1 53 yX1_isPlace, Cond.instanceMethod yX1_isPlace, Cond.selects RX1 yX1_isPlace yX1_isPlace, Cond.code yX1_isPlace cX1_isPlace 2 (some .boolean), Cond.methodLink RX1 49 yX1_isIn, Cond.static yX1_isIn, Cond.code yX1_isIn cX1_isIn 3 (some .boolean)]
def wsX1_ofPlace_r2 : List Cond := [Cond.methodLink RX1 96 yX1_no, Cond.instanceMethod yX1_no, Cond.selects RX1 yX1_no yX1_no, Cond.code yX1_no cX1_no 2 (some .int)]
def wsX1_ofPlace : List Cond := .code yX1_ofPlace cX1_ofPlace 3 (some .int) :: ((wsX1_ofPlace_r1 ++ wsX1_ofPlace_r2) ++ wsX10)
def wsX1_sureGrade_r1 : List Cond := [Cond.fieldLink RX1 27 "ExamGardenModel" "sure" "[I", Cond.methodLink RX1 138 yX1_ofPlace, Cond.instanceMethod yX1_ofPlace, Cond.selects RX1 yX1_ofPlace yX1_ofPlace, Cond.initialized RX1, Cond.code yX1_ofPlace cX1_ofPlace 3 (some .int), Cond.fieldLink RX1 42 "ExamGardenModel" "thrown" "I", Cond.methodLink RX1 116 yX1_table, Cond.instanceMethod yX1_table, Cond.selects RX1 yX1_table yX1_table, Cond.code yX1_table cX1_table 3 none, Cond.fieldLink RX1 46 "ExamGardenModel" "places" "I", Cond.fieldLink RX1 9 "ExamGardenModel" "forks" "[Z", Cond.fieldLink RX1 20 "ExamGardenModel" "third" "[I", Cond.fieldLink RX1 13 "ExamGardenModel" "one" "[I", Cond.fieldLink RX1 17 "ExamGardenModel" "other" "[I", Cond.methodLink RX1 60 Lib.Math.max.name, Cond.static Lib.Math.max.name, Cond.initialized "java/lang/Math", Cond.code Lib.Math.max.name Lib.Math.max.code 2 (some .int), Cond.fieldLink RX1 30 "ExamGardenModel" "hopes" "[I", Cond.methodLink RX1 53 yX1_isPlace, Cond.instanceMethod yX1_isPlace, Cond.selects RX1 yX1_isPlace yX1_isPlace]
def wsX1_sureGrade_r2 : List Cond := [Cond.code yX1_isPlace cX1_isPlace 2 (some .boolean), Cond.methodLink RX1 49 yX1_isIn, Cond.static yX1_isIn, Cond.code yX1_isIn cX1_isIn 3 (some .boolean), Cond.methodLink RX1 96 yX1_no, Cond.instanceMethod yX1_no, Cond.selects RX1 yX1_no yX1_no, Cond.code yX1_no cX1_no 2 (some .int)]
def wsX1_sureGrade : List Cond := .code yX1_sureGrade cX1_sureGrade 2 (some .int) :: ((wsX1_sureGrade_r1 ++ wsX1_sureGrade_r2) ++ wsX10)
def wsX1_hope_r1 : List Cond := [Cond.fieldLink RX1 30 "ExamGardenModel" "hopes" "[I", Cond.methodLink RX1 138 yX1_ofPlace, Cond.instanceMethod yX1_ofPlace, Cond.selects RX1 yX1_ofPlace yX1_ofPlace, Cond.initialized RX1, Cond.code yX1_ofPlace cX1_ofPlace 3 (some .int), Cond.fieldLink RX1 42 "ExamGardenModel" "thrown" "I", Cond.methodLink RX1 116 yX1_table, Cond.instanceMethod yX1_table, Cond.selects RX1 yX1_table yX1_table, Cond.code yX1_table cX1_table 3 none, Cond.fieldLink RX1 46 "ExamGardenModel" "places" "I", Cond.fieldLink RX1 9 "ExamGardenModel" "forks" "[Z", Cond.fieldLink RX1 20 "ExamGardenModel" "third" "[I", Cond.fieldLink RX1 27 "ExamGardenModel" "sure" "[I", Cond.fieldLink RX1 13 "ExamGardenModel" "one" "[I", Cond.fieldLink RX1 17 "ExamGardenModel" "other" "[I", Cond.methodLink RX1 60 Lib.Math.max.name, Cond.static Lib.Math.max.name, Cond.initialized "java/lang/Math", Cond.code Lib.Math.max.name Lib.Math.max.code 2 (some .int), Cond.methodLink RX1 53 yX1_isPlace, Cond.instanceMethod yX1_isPlace, Cond.selects RX1 yX1_isPlace yX1_isPlace]
def wsX1_hope_r2 : List Cond := [Cond.code yX1_isPlace cX1_isPlace 2 (some .boolean), Cond.methodLink RX1 49 yX1_isIn, Cond.static yX1_isIn, Cond.code yX1_isIn cX1_isIn 3 (some .boolean), Cond.methodLink RX1 96 yX1_no, Cond.instanceMethod yX1_no, Cond.selects RX1 yX1_no yX1_no, Cond.code yX1_no cX1_no 2 (some .int)]
def wsX1_hope : List Cond := .code yX1_hope cX1_hope 2 (some .int) :: ((wsX1_hope_r1 ++ wsX1_hope_r2) ++ wsX10)
def wsX1_reaches : List Cond := .code yX1_reaches cX1_reaches 3 (some .boolean) :: ([.fieldLink RX1 42 "ExamGardenModel" "thrown" "I", .methodLink RX1 53 yX1_isPlace, .instanceMethod yX1_isPlace, .selects RX1 yX1_isPlace yX1_isPlace, .initialized RX1, .code yX1_isPlace cX1_isPlace 2 (some .boolean), .fieldLink RX1 46 "ExamGardenModel" "places" "I", .methodLink RX1 49 yX1_isIn, .static yX1_isIn, .code yX1_isIn cX1_isIn 3 (some .boolean), .methodLink RX1 77 yX1_has, .instanceMethod yX1_has, .selects RX1 yX1_has yX1_has, .code yX1_has cX1_has 3 (some .boolean), .fieldLink RX1 23 "ExamGardenModel" "reach" "[J", .methodLink RX1 128 yX1_isNot, .instanceMethod yX1_isNot, .selects RX1 yX1_isNot yX1_isNot, .code yX1_isNot cX1_isNot 2 (some .boolean)] ++ wsX10)
def wsX1_examsFrom : List Cond := .code yX1_examsFrom cX1_examsFrom 2 (some .int) :: ([.fieldLink RX1 42 "ExamGardenModel" "thrown" "I", .methodLink RX1 53 yX1_isPlace, .instanceMethod yX1_isPlace, .selects RX1 yX1_isPlace yX1_isPlace, .initialized RX1, .code yX1_isPlace cX1_isPlace 2 (some .boolean), .fieldLink RX1 46 "ExamGardenModel" "places" "I", .methodLink RX1 49 yX1_isIn, .static yX1_isIn, .code yX1_isIn cX1_isIn 3 (some .boolean), .methodLink RX1 141 yX1_examsOf, .instanceMethod yX1_examsOf, .selects RX1 yX1_examsOf yX1_examsOf, .code yX1_examsOf cX1_examsOf 4 (some .int), .fieldLink RX1 9 "ExamGardenModel" "forks" "[Z", .methodLink RX1 77 yX1_has, .instanceMethod yX1_has, .selects RX1 yX1_has yX1_has, .code yX1_has cX1_has 3 (some .boolean), .fieldLink RX1 23 "ExamGardenModel" "reach" "[J", .methodLink RX1 96 yX1_no, .instanceMethod yX1_no, .selects RX1 yX1_no yX1_no, .code yX1_no cX1_no 2 (some .int)] ++ wsX10)
def wsX1_risk_r1 : List Cond := [Cond.fieldLink RX1 42 "ExamGardenModel" "thrown" "I", Cond.methodLink RX1 116 yX1_table, Cond.instanceMethod yX1_table, Cond.selects RX1 yX1_table yX1_table, Cond.initialized RX1, Cond.code yX1_table cX1_table 3 none, Cond.fieldLink RX1 46 "ExamGardenModel" "places" "I", Cond.fieldLink RX1 9 "ExamGardenModel" "forks" "[Z", Cond.fieldLink RX1 20 "ExamGardenModel" "third" "[I", Cond.fieldLink RX1 27 "ExamGardenModel" "sure" "[I", Cond.fieldLink RX1 13 "ExamGardenModel" "one" "[I", Cond.fieldLink RX1 17 "ExamGardenModel" "other" "[I", Cond.methodLink RX1 60 Lib.Math.max.name, Cond.static Lib.Math.max.name, Cond.initialized "java/lang/Math", Cond.code Lib.Math.max.name Lib.Math.max.code 2 (some .int), Cond.fieldLink RX1 30 "ExamGardenModel" "hopes" "[I", Cond.methodLink RX1 106 yX1_isForkAt, Cond.instanceMethod yX1_isForkAt, Cond.selects RX1 yX1_isForkAt yX1_isForkAt, Cond.code yX1_isForkAt cX1_isForkAt 2 (some .boolean), Cond.methodLink RX1 53 yX1_isPlace, Cond.instanceMethod yX1_isPlace, Cond.selects RX1 yX1_isPlace yX1_isPlace]
def wsX1_risk_r2 : List Cond := [Cond.code yX1_isPlace cX1_isPlace 2 (some .boolean), Cond.methodLink RX1 49 yX1_isIn, Cond.static yX1_isIn, Cond.code yX1_isIn cX1_isIn 3 (some .boolean), Cond.methodLink RX1 66 yX1_riskOf, Cond.instanceMethod yX1_riskOf, Cond.selects RX1 yX1_riskOf yX1_riskOf, Cond.code yX1_riskOf cX1_riskOf 5 (some .int), Cond.methodLink RX1 96 yX1_no, Cond.instanceMethod yX1_no, Cond.selects RX1 yX1_no yX1_no, Cond.code yX1_no cX1_no 2 (some .int)]
def wsX1_risk : List Cond := .code yX1_risk cX1_risk 3 (some .int) :: ((wsX1_risk_r1 ++ wsX1_risk_r2) ++ wsX10)
def wsX1_planTurnsRight_r1 : List Cond := [Cond.fieldLink RX1 42 "ExamGardenModel" "thrown" "I", Cond.methodLink RX1 116 yX1_table, Cond.instanceMethod yX1_table, Cond.selects RX1 yX1_table yX1_table, Cond.initialized RX1, Cond.code yX1_table cX1_table 3 none, Cond.fieldLink RX1 46 "ExamGardenModel" "places" "I", Cond.fieldLink RX1 9 "ExamGardenModel" "forks" "[Z", Cond.fieldLink RX1 20 "ExamGardenModel" "third" "[I", Cond.fieldLink RX1 27 "ExamGardenModel" "sure" "[I", Cond.fieldLink RX1 13 "ExamGardenModel" "one" "[I", Cond.fieldLink RX1 17 "ExamGardenModel" "other" "[I", Cond.methodLink RX1 60 Lib.Math.max.name, Cond.static Lib.Math.max.name, Cond.initialized "java/lang/Math", Cond.code Lib.Math.max.name Lib.Math.max.code 2 (some .int), Cond.fieldLink RX1 30 "ExamGardenModel" "hopes" "[I", Cond.methodLink RX1 106 yX1_isForkAt, Cond.instanceMethod yX1_isForkAt, Cond.selects RX1 yX1_isForkAt yX1_isForkAt, Cond.code yX1_isForkAt cX1_isForkAt 2 (some .boolean), Cond.methodLink RX1 53 yX1_isPlace, Cond.instanceMethod yX1_isPlace, Cond.selects RX1 yX1_isPlace yX1_isPlace]
def wsX1_planTurnsRight_r2 : List Cond := [Cond.code yX1_isPlace cX1_isPlace 2 (some .boolean), Cond.methodLink RX1 49 yX1_isIn, Cond.static yX1_isIn, Cond.code yX1_isIn cX1_isIn 3 (some .boolean), Cond.methodLink RX1 70 yX1_turnsRight, Cond.instanceMethod yX1_turnsRight, Cond.selects RX1 yX1_turnsRight yX1_turnsRight, Cond.code yX1_turnsRight cX1_turnsRight 2 (some .boolean), Cond.methodLink RX1 66 yX1_riskOf, Cond.instanceMethod yX1_riskOf, Cond.selects RX1 yX1_riskOf yX1_riskOf, Cond.code yX1_riskOf cX1_riskOf 5 (some .int), Cond.methodLink RX1 128 yX1_isNot, Cond.instanceMethod yX1_isNot, Cond.selects RX1 yX1_isNot yX1_isNot, Cond.code yX1_isNot cX1_isNot 2 (some .boolean)]
def wsX1_planTurnsRight : List Cond := .code yX1_planTurnsRight cX1_planTurnsRight 2 (some .boolean) :: ((wsX1_planTurnsRight_r1 ++ wsX1_planTurnsRight_r2) ++ wsX10)
def wsX1_planLeadsTo_r1 : List Cond := [Cond.fieldLink RX1 42 "ExamGardenModel" "thrown" "I", Cond.methodLink RX1 116 yX1_table, Cond.instanceMethod yX1_table, Cond.selects RX1 yX1_table yX1_table, Cond.initialized RX1, Cond.code yX1_table cX1_table 3 none, Cond.fieldLink RX1 46 "ExamGardenModel" "places" "I", Cond.fieldLink RX1 9 "ExamGardenModel" "forks" "[Z", Cond.fieldLink RX1 20 "ExamGardenModel" "third" "[I", Cond.fieldLink RX1 27 "ExamGardenModel" "sure" "[I", Cond.fieldLink RX1 13 "ExamGardenModel" "one" "[I", Cond.fieldLink RX1 17 "ExamGardenModel" "other" "[I", Cond.methodLink RX1 60 Lib.Math.max.name, Cond.static Lib.Math.max.name, Cond.initialized "java/lang/Math", Cond.code Lib.Math.max.name Lib.Math.max.code 2 (some .int), Cond.fieldLink RX1 30 "ExamGardenModel" "hopes" "[I", Cond.methodLink RX1 53 yX1_isPlace, Cond.instanceMethod yX1_isPlace, Cond.selects RX1 yX1_isPlace yX1_isPlace, Cond.code yX1_isPlace cX1_isPlace 2 (some .boolean), Cond.methodLink RX1 49 yX1_isIn, Cond.static yX1_isIn, Cond.code yX1_isIn cX1_isIn 3 (some .boolean)]
def wsX1_planLeadsTo_r2 : List Cond := [Cond.methodLink RX1 144 yX1_leads, Cond.instanceMethod yX1_leads, Cond.selects RX1 yX1_leads yX1_leads, Cond.code yX1_leads cX1_leads 3 (some .int), Cond.methodLink RX1 73 yX1_planned, Cond.instanceMethod yX1_planned, Cond.selects RX1 yX1_planned yX1_planned, Cond.code yX1_planned cX1_planned 2 (some .int), Cond.methodLink RX1 70 yX1_turnsRight, Cond.instanceMethod yX1_turnsRight, Cond.selects RX1 yX1_turnsRight yX1_turnsRight, Cond.code yX1_turnsRight cX1_turnsRight 2 (some .boolean), Cond.methodLink RX1 66 yX1_riskOf, Cond.instanceMethod yX1_riskOf, Cond.selects RX1 yX1_riskOf yX1_riskOf, Cond.code yX1_riskOf cX1_riskOf 5 (some .int), Cond.methodLink RX1 96 yX1_no, Cond.instanceMethod yX1_no, Cond.selects RX1 yX1_no yX1_no, Cond.code yX1_no cX1_no 2 (some .int)]
def wsX1_planLeadsTo : List Cond := .code yX1_planLeadsTo cX1_planLeadsTo 2 (some .int) :: ((wsX1_planLeadsTo_r1 ++ wsX1_planLeadsTo_r2) ++ wsX10)
def wsX1_riskiestFork_r1 : List Cond := [Cond.methodLink RX1 116 yX1_table, Cond.instanceMethod yX1_table, Cond.selects RX1 yX1_table yX1_table, Cond.initialized RX1, Cond.code yX1_table cX1_table 3 none, Cond.fieldLink RX1 46 "ExamGardenModel" "places" "I", Cond.fieldLink RX1 9 "ExamGardenModel" "forks" "[Z", Cond.fieldLink RX1 20 "ExamGardenModel" "third" "[I", Cond.fieldLink RX1 27 "ExamGardenModel" "sure" "[I", Cond.fieldLink RX1 13 "ExamGardenModel" "one" "[I", Cond.fieldLink RX1 17 "ExamGardenModel" "other" "[I", Cond.methodLink RX1 60 Lib.Math.max.name, Cond.static Lib.Math.max.name, Cond.initialized "java/lang/Math", Cond.code Lib.Math.max.name Lib.Math.max.code 2 (some .int), Cond.fieldLink RX1 30 "ExamGardenModel" "hopes" "[I", Cond.methodLink RX1 147 yX1_riskiest, Cond.instanceMethod yX1_riskiest, Cond.selects RX1 yX1_riskiest yX1_riskiest, Cond.code yX1_riskiest cX1_riskiest 5 (some .int), Cond.methodLink RX1 81 Lib.Math.min.name, Cond.static Lib.Math.min.name, Cond.code Lib.Math.min.name Lib.Math.min.code 2 (some .int), Cond.methodLink RX1 66 yX1_riskOf]
def wsX1_riskiestFork_r2 : List Cond := [Cond.instanceMethod yX1_riskOf, Cond.selects RX1 yX1_riskOf yX1_riskOf, Cond.code yX1_riskOf cX1_riskOf 5 (some .int), Cond.methodLink RX1 119 yX1_ok, Cond.instanceMethod yX1_ok, Cond.selects RX1 yX1_ok yX1_ok, Cond.code yX1_ok cX1_ok 2 (some .int), Cond.fieldLink RX1 42 "ExamGardenModel" "thrown" "I"]
def wsX1_riskiestFork : List Cond := .code yX1_riskiestFork cX1_riskiestFork 1 (some .int) :: ((wsX1_riskiestFork_r1 ++ wsX1_riskiestFork_r2) ++ wsX10)
def wsX1_hindsight_r1 : List Cond := [Cond.fieldLink RX1 42 "ExamGardenModel" "thrown" "I", Cond.methodLink RX1 106 yX1_isForkAt, Cond.instanceMethod yX1_isForkAt, Cond.selects RX1 yX1_isForkAt yX1_isForkAt, Cond.initialized RX1, Cond.code yX1_isForkAt cX1_isForkAt 2 (some .boolean), Cond.fieldLink RX1 9 "ExamGardenModel" "forks" "[Z", Cond.methodLink RX1 53 yX1_isPlace, Cond.instanceMethod yX1_isPlace, Cond.selects RX1 yX1_isPlace yX1_isPlace, Cond.code yX1_isPlace cX1_isPlace 2 (some .boolean), Cond.fieldLink RX1 46 "ExamGardenModel" "places" "I", Cond.methodLink RX1 49 yX1_isIn, Cond.static yX1_isIn, Cond.code yX1_isIn cX1_isIn 3 (some .boolean), Cond.methodLink RX1 84 yX1_behind, Cond.instanceMethod yX1_behind, Cond.selects RX1 yX1_behind yX1_behind, Cond.code yX1_behind cX1_behind 4 (some .int), Cond.fieldLink RX1 20 "ExamGardenModel" "third" "[I", Cond.methodLink RX1 60 Lib.Math.max.name, Cond.static Lib.Math.max.name, Cond.initialized "java/lang/Math", Cond.code Lib.Math.max.name Lib.Math.max.code 2 (some .int)]
def wsX1_hindsight_r2 : List Cond := [Cond.methodLink RX1 77 yX1_has, Cond.instanceMethod yX1_has, Cond.selects RX1 yX1_has yX1_has, Cond.code yX1_has cX1_has 3 (some .boolean), Cond.fieldLink RX1 23 "ExamGardenModel" "reach" "[J", Cond.methodLink RX1 96 yX1_no, Cond.instanceMethod yX1_no, Cond.selects RX1 yX1_no yX1_no, Cond.code yX1_no cX1_no 2 (some .int)]
def wsX1_hindsight : List Cond := .code yX1_hindsight cX1_hindsight 2 (some .int) :: ((wsX1_hindsight_r1 ++ wsX1_hindsight_r2) ++ wsX10)
def wsX1_regretOf_r1 : List Cond := [Cond.fieldLink RX1 42 "ExamGardenModel" "thrown" "I", Cond.methodLink RX1 109 yX1_isStudent, Cond.instanceMethod yX1_isStudent, Cond.selects RX1 yX1_isStudent yX1_isStudent, Cond.initialized RX1, Cond.code yX1_isStudent cX1_isStudent 2 (some .boolean), Cond.fieldLink RX1 57 "ExamGardenModel" "students" "I", Cond.methodLink RX1 49 yX1_isIn, Cond.static yX1_isIn, Cond.code yX1_isIn cX1_isIn 3 (some .boolean), Cond.methodLink RX1 96 yX1_no, Cond.instanceMethod yX1_no, Cond.selects RX1 yX1_no yX1_no, Cond.code yX1_no cX1_no 2 (some .int), Cond.methodLink RX1 90 yX1_isKnown, Cond.instanceMethod yX1_isKnown, Cond.selects RX1 yX1_isKnown yX1_isKnown, Cond.code yX1_isKnown cX1_isKnown 2 (some .boolean), Cond.fieldLink RX1 9 "ExamGardenModel" "forks" "[Z", Cond.fieldLink RX1 33 "ExamGardenModel" "stands" "[I", Cond.fieldLink RX1 20 "ExamGardenModel" "third" "[I", Cond.methodLink RX1 93 yX1_regrets, Cond.instanceMethod yX1_regrets, Cond.selects RX1 yX1_regrets yX1_regrets]
def wsX1_regretOf_r2 : List Cond := [Cond.code yX1_regrets cX1_regrets 4 (some .int), Cond.fieldLink RX1 36 "ExamGardenModel" "passed" "[I", Cond.methodLink RX1 87 yX1_regret, Cond.instanceMethod yX1_regret, Cond.selects RX1 yX1_regret yX1_regret, Cond.code yX1_regret cX1_regret 4 (some .int), Cond.fieldLink RX1 39 "ExamGardenModel" "ways" "[I", Cond.methodLink RX1 60 Lib.Math.max.name, Cond.static Lib.Math.max.name, Cond.initialized "java/lang/Math", Cond.code Lib.Math.max.name Lib.Math.max.code 2 (some .int), Cond.methodLink RX1 84 yX1_behind, Cond.instanceMethod yX1_behind, Cond.selects RX1 yX1_behind yX1_behind, Cond.code yX1_behind cX1_behind 4 (some .int), Cond.methodLink RX1 77 yX1_has, Cond.instanceMethod yX1_has, Cond.selects RX1 yX1_has yX1_has, Cond.code yX1_has cX1_has 3 (some .boolean), Cond.fieldLink RX1 23 "ExamGardenModel" "reach" "[J"]
def wsX1_regretOf : List Cond := .code yX1_regretOf cX1_regretOf 2 (some .int) :: ((wsX1_regretOf_r1 ++ wsX1_regretOf_r2) ++ wsX10)
def wsX1_worst : List Cond := .code yX1_worst cX1_worst 5 (some .int) :: ([.fieldLink RX1 36 "ExamGardenModel" "passed" "[I", .fieldLink RX1 39 "ExamGardenModel" "ways" "[I", .methodLink RX1 87 yX1_regret, .instanceMethod yX1_regret, .selects RX1 yX1_regret yX1_regret, .initialized RX1, .code yX1_regret cX1_regret 4 (some .int), .fieldLink RX1 20 "ExamGardenModel" "third" "[I", .fieldLink RX1 33 "ExamGardenModel" "stands" "[I", .methodLink RX1 60 Lib.Math.max.name, .static Lib.Math.max.name, .initialized "java/lang/Math", .code Lib.Math.max.name Lib.Math.max.code 2 (some .int), .methodLink RX1 84 yX1_behind, .instanceMethod yX1_behind, .selects RX1 yX1_behind yX1_behind, .code yX1_behind cX1_behind 4 (some .int), .fieldLink RX1 9 "ExamGardenModel" "forks" "[Z", .methodLink RX1 77 yX1_has, .instanceMethod yX1_has, .selects RX1 yX1_has yX1_has, .code yX1_has cX1_has 3 (some .boolean), .fieldLink RX1 23 "ExamGardenModel" "reach" "[J"] ++ wsX10)
def wsX1_worstFork_r1 : List Cond := [Cond.fieldLink RX1 42 "ExamGardenModel" "thrown" "I", Cond.methodLink RX1 109 yX1_isStudent, Cond.instanceMethod yX1_isStudent, Cond.selects RX1 yX1_isStudent yX1_isStudent, Cond.initialized RX1, Cond.code yX1_isStudent cX1_isStudent 2 (some .boolean), Cond.fieldLink RX1 57 "ExamGardenModel" "students" "I", Cond.methodLink RX1 49 yX1_isIn, Cond.static yX1_isIn, Cond.code yX1_isIn cX1_isIn 3 (some .boolean), Cond.methodLink RX1 96 yX1_no, Cond.instanceMethod yX1_no, Cond.selects RX1 yX1_no yX1_no, Cond.code yX1_no cX1_no 2 (some .int), Cond.methodLink RX1 90 yX1_isKnown, Cond.instanceMethod yX1_isKnown, Cond.selects RX1 yX1_isKnown yX1_isKnown, Cond.code yX1_isKnown cX1_isKnown 2 (some .boolean), Cond.fieldLink RX1 9 "ExamGardenModel" "forks" "[Z", Cond.fieldLink RX1 33 "ExamGardenModel" "stands" "[I", Cond.fieldLink RX1 20 "ExamGardenModel" "third" "[I", Cond.methodLink RX1 150 yX1_worst, Cond.instanceMethod yX1_worst, Cond.selects RX1 yX1_worst yX1_worst]
def wsX1_worstFork_r2 : List Cond := [Cond.code yX1_worst cX1_worst 5 (some .int), Cond.fieldLink RX1 36 "ExamGardenModel" "passed" "[I", Cond.fieldLink RX1 39 "ExamGardenModel" "ways" "[I", Cond.methodLink RX1 87 yX1_regret, Cond.instanceMethod yX1_regret, Cond.selects RX1 yX1_regret yX1_regret, Cond.code yX1_regret cX1_regret 4 (some .int), Cond.methodLink RX1 60 Lib.Math.max.name, Cond.static Lib.Math.max.name, Cond.initialized "java/lang/Math", Cond.code Lib.Math.max.name Lib.Math.max.code 2 (some .int), Cond.methodLink RX1 84 yX1_behind, Cond.instanceMethod yX1_behind, Cond.selects RX1 yX1_behind yX1_behind, Cond.code yX1_behind cX1_behind 4 (some .int), Cond.methodLink RX1 77 yX1_has, Cond.instanceMethod yX1_has, Cond.selects RX1 yX1_has yX1_has, Cond.code yX1_has cX1_has 3 (some .boolean), Cond.fieldLink RX1 23 "ExamGardenModel" "reach" "[J"]
def wsX1_worstFork : List Cond := .code yX1_worstFork cX1_worstFork 2 (some .int) :: ((wsX1_worstFork_r1 ++ wsX1_worstFork_r2) ++ wsX10)
def wsX1_allRegret_r1 : List Cond := [Cond.methodLink RX1 153 yX1_allRegrets, Cond.instanceMethod yX1_allRegrets, Cond.selects RX1 yX1_allRegrets yX1_allRegrets, Cond.initialized RX1, Cond.code yX1_allRegrets cX1_allRegrets 3 (some .int), Cond.fieldLink RX1 57 "ExamGardenModel" "students" "I", Cond.methodLink RX1 90 yX1_isKnown, Cond.instanceMethod yX1_isKnown, Cond.selects RX1 yX1_isKnown yX1_isKnown, Cond.code yX1_isKnown cX1_isKnown 2 (some .boolean), Cond.fieldLink RX1 9 "ExamGardenModel" "forks" "[Z", Cond.fieldLink RX1 33 "ExamGardenModel" "stands" "[I", Cond.fieldLink RX1 20 "ExamGardenModel" "third" "[I", Cond.methodLink RX1 93 yX1_regrets, Cond.instanceMethod yX1_regrets, Cond.selects RX1 yX1_regrets yX1_regrets, Cond.code yX1_regrets cX1_regrets 4 (some .int), Cond.fieldLink RX1 36 "ExamGardenModel" "passed" "[I", Cond.methodLink RX1 87 yX1_regret, Cond.instanceMethod yX1_regret, Cond.selects RX1 yX1_regret yX1_regret, Cond.code yX1_regret cX1_regret 4 (some .int), Cond.fieldLink RX1 39 "ExamGardenModel" "ways" "[I", Cond.methodLink RX1 60 Lib.Math.max.name]
def wsX1_allRegret_r2 : List Cond := [Cond.static Lib.Math.max.name, Cond.initialized "java/lang/Math", Cond.code Lib.Math.max.name Lib.Math.max.code 2 (some .int), Cond.methodLink RX1 84 yX1_behind, Cond.instanceMethod yX1_behind, Cond.selects RX1 yX1_behind yX1_behind, Cond.code yX1_behind cX1_behind 4 (some .int), Cond.methodLink RX1 77 yX1_has, Cond.instanceMethod yX1_has, Cond.selects RX1 yX1_has yX1_has, Cond.code yX1_has cX1_has 3 (some .boolean), Cond.fieldLink RX1 23 "ExamGardenModel" "reach" "[J", Cond.methodLink RX1 119 yX1_ok, Cond.instanceMethod yX1_ok, Cond.selects RX1 yX1_ok yX1_ok, Cond.code yX1_ok cX1_ok 2 (some .int), Cond.fieldLink RX1 42 "ExamGardenModel" "thrown" "I"]
def wsX1_allRegret : List Cond := .code yX1_allRegret cX1_allRegret 1 (some .int) :: ((wsX1_allRegret_r1 ++ wsX1_allRegret_r2) ++ wsX10)
def wsX1_meanGrade : List Cond := .code yX1_meanGrade cX1_meanGrade 3 (some .double) :: ([.fieldLink RX1 42 "ExamGardenModel" "thrown" "I", .fieldLink RX1 46 "ExamGardenModel" "places" "I", .fieldLink RX1 9 "ExamGardenModel" "forks" "[Z", .fieldLink RX1 20 "ExamGardenModel" "third" "[I", .methodLink RX1 102 yX1_gradedNow, .instanceMethod yX1_gradedNow, .selects RX1 yX1_gradedNow yX1_gradedNow, .initialized RX1, .code yX1_gradedNow cX1_gradedNow 3 (some .int)] ++ wsX10)
def wsX1_digest_r1 : List Cond := [Cond.fieldLink RX1 42 "ExamGardenModel" "thrown" "I", Cond.arrayClass .int, Cond.fieldLink RX1 46 "ExamGardenModel" "places" "I", Cond.fieldLink RX1 57 "ExamGardenModel" "students" "I", Cond.constantLong RX1 156 (1039), Cond.constantLong RX1 158 (31), Cond.fieldLink RX1 9 "ExamGardenModel" "forks" "[Z", Cond.fieldLink RX1 27 "ExamGardenModel" "sure" "[I", Cond.fieldLink RX1 30 "ExamGardenModel" "hopes" "[I", Cond.fieldLink RX1 13 "ExamGardenModel" "one" "[I", Cond.fieldLink RX1 17 "ExamGardenModel" "other" "[I", Cond.fieldLink RX1 20 "ExamGardenModel" "third" "[I", Cond.fieldLink RX1 33 "ExamGardenModel" "stands" "[I", Cond.fieldLink RX1 36 "ExamGardenModel" "passed" "[I", Cond.methodLink RX1 116 yX1_table, Cond.instanceMethod yX1_table, Cond.selects RX1 yX1_table yX1_table, Cond.initialized RX1, Cond.code yX1_table cX1_table 3 none, Cond.methodLink RX1 60 Lib.Math.max.name, Cond.static Lib.Math.max.name, Cond.initialized "java/lang/Math", Cond.code Lib.Math.max.name Lib.Math.max.code 2 (some .int), Cond.methodLink RX1 122 yX1_examsNow]
def wsX1_digest_r2 : List Cond := [Cond.instanceMethod yX1_examsNow, Cond.selects RX1 yX1_examsNow yX1_examsNow, Cond.code yX1_examsNow cX1_examsNow 3 (some .int), Cond.methodLink RX1 102 yX1_gradedNow, Cond.instanceMethod yX1_gradedNow, Cond.selects RX1 yX1_gradedNow yX1_gradedNow, Cond.code yX1_gradedNow cX1_gradedNow 3 (some .int), Cond.methodLink RX1 125 yX1_atEnds, Cond.instanceMethod yX1_atEnds, Cond.selects RX1 yX1_atEnds yX1_atEnds, Cond.code yX1_atEnds cX1_atEnds 3 (some .int), Cond.methodLink RX1 147 yX1_riskiest, Cond.instanceMethod yX1_riskiest, Cond.selects RX1 yX1_riskiest yX1_riskiest, Cond.code yX1_riskiest cX1_riskiest 5 (some .int), Cond.methodLink RX1 81 Lib.Math.min.name, Cond.static Lib.Math.min.name, Cond.code Lib.Math.min.name Lib.Math.min.code 2 (some .int), Cond.methodLink RX1 66 yX1_riskOf, Cond.instanceMethod yX1_riskOf, Cond.selects RX1 yX1_riskOf yX1_riskOf, Cond.code yX1_riskOf cX1_riskOf 5 (some .int), Cond.methodLink RX1 153 yX1_allRegrets, Cond.instanceMethod yX1_allRegrets]
def wsX1_digest_r3 : List Cond := [Cond.selects RX1 yX1_allRegrets yX1_allRegrets, Cond.code yX1_allRegrets cX1_allRegrets 3 (some .int), Cond.methodLink RX1 90 yX1_isKnown, Cond.instanceMethod yX1_isKnown, Cond.selects RX1 yX1_isKnown yX1_isKnown, Cond.code yX1_isKnown cX1_isKnown 2 (some .boolean), Cond.methodLink RX1 93 yX1_regrets, Cond.instanceMethod yX1_regrets, Cond.selects RX1 yX1_regrets yX1_regrets, Cond.code yX1_regrets cX1_regrets 4 (some .int), Cond.methodLink RX1 87 yX1_regret, Cond.instanceMethod yX1_regret, Cond.selects RX1 yX1_regret yX1_regret, Cond.code yX1_regret cX1_regret 4 (some .int), Cond.fieldLink RX1 39 "ExamGardenModel" "ways" "[I", Cond.methodLink RX1 84 yX1_behind, Cond.instanceMethod yX1_behind, Cond.selects RX1 yX1_behind yX1_behind, Cond.code yX1_behind cX1_behind 4 (some .int), Cond.methodLink RX1 77 yX1_has, Cond.instanceMethod yX1_has, Cond.selects RX1 yX1_has yX1_has, Cond.code yX1_has cX1_has 3 (some .boolean), Cond.fieldLink RX1 23 "ExamGardenModel" "reach" "[J"]
def wsX1_digest_r4 : List Cond := [Cond.methodLink RX1 141 yX1_examsOf, Cond.instanceMethod yX1_examsOf, Cond.selects RX1 yX1_examsOf yX1_examsOf, Cond.code yX1_examsOf cX1_examsOf 4 (some .int), Cond.methodLink RX1 144 yX1_leads, Cond.instanceMethod yX1_leads, Cond.selects RX1 yX1_leads yX1_leads, Cond.code yX1_leads cX1_leads 3 (some .int), Cond.methodLink RX1 73 yX1_planned, Cond.instanceMethod yX1_planned, Cond.selects RX1 yX1_planned yX1_planned, Cond.code yX1_planned cX1_planned 2 (some .int), Cond.methodLink RX1 70 yX1_turnsRight, Cond.instanceMethod yX1_turnsRight, Cond.selects RX1 yX1_turnsRight yX1_turnsRight, Cond.code yX1_turnsRight cX1_turnsRight 2 (some .boolean)]
def wsX1_digest : List Cond := .code yX1_digest cX1_digest 10 (some .long) :: ((wsX1_digest_r1 ++ (wsX1_digest_r2 ++ (wsX1_digest_r3 ++ wsX1_digest_r4))) ++ wsX10)
def wsJ9_max_7cf53 : List Cond := .code yJ9_max_7cf53 cJ9_max_7cf53 2 (some .int) :: ([])
def wsJ9_min_7cf53 : List Cond := .code yJ9_min_7cf53 cJ9_min_7cf53 2 (some .int) :: ([])
def wsL_addExam_r1 : List Cond := [Cond.classLink RL 13 "java/lang/IllegalArgumentException", Cond.classLink RL 15 "java/lang/IllegalStateException", Cond.methodLink RL 7 yX0_addExam, Cond.instanceMethod yX0_addExam, Cond.selects RX0 yX0_addExam yX0_addExam, Cond.initialized RX0, Cond.code yX0_addExam cX0_addExam 4 (some .int), Cond.classLink RX0 50 "java/lang/IllegalArgumentException", Cond.initialized "java/lang/IllegalArgumentException", Cond.fieldLink RX0 60 "ExamGarden" "placeCount" "I", Cond.fieldLink RX0 64 "ExamGarden" "examBits" "J", Cond.fieldLink RX0 9 "ExamGarden" "lowestGrades" "[I", Cond.fieldLink RX0 13 "ExamGarden" "highestGrades" "[I", Cond.fieldLink RX0 25 "ExamGarden" "grades" "[I", Cond.fieldLink RX0 37 "ExamGarden" "reachedBits" "[J", Cond.methodLink RX0 57 yX0_requireRoom, Cond.instanceMethod yX0_requireRoom, Cond.selects RX0 yX0_requireRoom yX0_requireRoom, Cond.code yX0_requireRoom cX0_requireRoom 1 none, Cond.classLink RX0 110 "java/lang/IllegalStateException", Cond.initialized "java/lang/IllegalStateException", Cond.methodLink RX0 68 yX0_bitOf, Cond.static yX0_bitOf, Cond.code yX0_bitOf cX0_bitOf 1 (some .long)]
def wsL_addExam_r2 : List Cond := [Cond.methodLink RX0 72 yX0_put, Cond.static yX0_put, Cond.code yX0_put cX0_put 3 none, Cond.methodLink RX0 76 yX0_putBits, Cond.static yX0_putBits, Cond.code yX0_putBits cX0_putBits 4 none, Cond.methodLink RX0 80 yX0_settleExam, Cond.instanceMethod yX0_settleExam, Cond.selects RX0 yX0_settleExam yX0_settleExam, Cond.code yX0_settleExam cX0_settleExam 4 none, Cond.fieldLink RX0 28 "ExamGarden" "sureGrades" "[I", Cond.fieldLink RX0 31 "ExamGarden" "hopes" "[I", Cond.fieldLink RX0 34 "ExamGarden" "hindsights" "[I", Cond.methodLink RX0 106 yX0_hasGrade, Cond.instanceMethod yX0_hasGrade, Cond.selects RX0 yX0_hasGrade yX0_hasGrade, Cond.code yX0_hasGrade cX0_hasGrade 2 (some .boolean), Cond.methodLink RX0 100 yX0_at, Cond.static yX0_at, Cond.code yX0_at cX0_at 2 (some .int)]
def wsL_addExam : List Cond := .codeWith yL_addExam cL_addExam 5 (some .int) [(0, 10, 13, 13), (0, 10, 17, 15)] :: ((wsL_addExam_r1 ++ wsL_addExam_r2) ++ wsX00 ++ (vx_atS RX0 54 "java/lang/IllegalArgumentException" ["java/lang/RuntimeException", "java/lang/Exception"]).filter goodWord ++ (vx_atS RX0 114 "java/lang/IllegalStateException" ["java/lang/RuntimeException", "java/lang/Exception"]).filter goodWord)
def wsL_addFork_r1 : List Cond := [Cond.classLink RL 21 "java/lang/IndexOutOfBoundsException", Cond.classLink RL 13 "java/lang/IllegalArgumentException", Cond.classLink RL 15 "java/lang/IllegalStateException", Cond.methodLink RL 17 yX0_addFork, Cond.instanceMethod yX0_addFork, Cond.selects RX0 yX0_addFork yX0_addFork, Cond.initialized RX0, Cond.code yX0_addFork cX0_addFork 5 (some .int), Cond.fieldLink RX0 60 "ExamGarden" "placeCount" "I", Cond.fieldLink RX0 16 "ExamGarden" "lefts" "[I", Cond.fieldLink RX0 19 "ExamGarden" "rights" "[I", Cond.fieldLink RX0 22 "ExamGarden" "weights" "[I", Cond.fieldLink RX0 25 "ExamGarden" "grades" "[I", Cond.fieldLink RX0 37 "ExamGarden" "reachedBits" "[J", Cond.methodLink RX0 84 yX0_requirePlace, Cond.instanceMethod yX0_requirePlace, Cond.selects RX0 yX0_requirePlace yX0_requirePlace, Cond.code yX0_requirePlace cX0_requirePlace 2 none, Cond.classLink RX0 250 "java/lang/IndexOutOfBoundsException", Cond.initialized "java/lang/IndexOutOfBoundsException", Cond.methodLink RX0 87 yX0_requireWeight, Cond.static yX0_requireWeight, Cond.code yX0_requireWeight cX0_requireWeight 1 none, Cond.classLink RX0 50 "java/lang/IllegalArgumentException"]
def wsL_addFork_r2 : List Cond := [Cond.initialized "java/lang/IllegalArgumentException", Cond.methodLink RX0 57 yX0_requireRoom, Cond.instanceMethod yX0_requireRoom, Cond.selects RX0 yX0_requireRoom yX0_requireRoom, Cond.code yX0_requireRoom cX0_requireRoom 1 none, Cond.classLink RX0 110 "java/lang/IllegalStateException", Cond.initialized "java/lang/IllegalStateException", Cond.methodLink RX0 72 yX0_put, Cond.static yX0_put, Cond.code yX0_put cX0_put 3 none, Cond.methodLink RX0 68 yX0_bitOf, Cond.static yX0_bitOf, Cond.code yX0_bitOf cX0_bitOf 1 (some .long), Cond.methodLink RX0 90 yX0_bitsAt, Cond.static yX0_bitsAt, Cond.code yX0_bitsAt cX0_bitsAt 2 (some .long), Cond.methodLink RX0 76 yX0_putBits, Cond.static yX0_putBits, Cond.code yX0_putBits cX0_putBits 4 none, Cond.methodLink RX0 94 yX0_settleFork, Cond.instanceMethod yX0_settleFork, Cond.selects RX0 yX0_settleFork yX0_settleFork, Cond.code yX0_settleFork cX0_settleFork 2 none, Cond.fieldLink RX0 28 "ExamGarden" "sureGrades" "[I"]
def wsL_addFork_r3 : List Cond := [Cond.fieldLink RX0 31 "ExamGarden" "hopes" "[I", Cond.fieldLink RX0 34 "ExamGarden" "hindsights" "[I", Cond.methodLink RX0 265 yX0_settleGreater, Cond.instanceMethod yX0_settleGreater, Cond.selects RX0 yX0_settleGreater yX0_settleGreater, Cond.code yX0_settleGreater cX0_settleGreater 3 none, Cond.methodLink RX0 269 Lib.Math.max.name, Cond.static Lib.Math.max.name, Cond.initialized "java/lang/Math", Cond.code Lib.Math.max.name Lib.Math.max.code 2 (some .int), Cond.methodLink RX0 100 yX0_at, Cond.static yX0_at, Cond.code yX0_at cX0_at 2 (some .int)]
def wsL_addFork : List Cond := .codeWith yL_addFork cL_addFork 6 (some .int) [(0, 12, 15, 21), (0, 12, 19, 13), (0, 12, 23, 15)] :: ((wsL_addFork_r1 ++ (wsL_addFork_r2 ++ wsL_addFork_r3)) ++ wsX00 ++ (vx_atS RX0 254 "java/lang/IndexOutOfBoundsException" ["java/lang/RuntimeException", "java/lang/Exception"]).filter goodWord ++ (vx_atS RX0 54 "java/lang/IllegalArgumentException" ["java/lang/RuntimeException", "java/lang/Exception"]).filter goodWord ++ (vx_atS RX0 114 "java/lang/IllegalStateException" ["java/lang/RuntimeException", "java/lang/Exception"]).filter goodWord)
def wsL_grade_r1 : List Cond := [Cond.classLink RL 21 "java/lang/IndexOutOfBoundsException", Cond.classLink RL 13 "java/lang/IllegalArgumentException", Cond.classLink RL 15 "java/lang/IllegalStateException", Cond.methodLink RL 23 yX0_grade, Cond.instanceMethod yX0_grade, Cond.selects RX0 yX0_grade yX0_grade, Cond.initialized RX0, Cond.code yX0_grade cX0_grade 3 (some .int), Cond.classLink RX0 50 "java/lang/IllegalArgumentException", Cond.initialized "java/lang/IllegalArgumentException", Cond.classLink RX0 110 "java/lang/IllegalStateException", Cond.initialized "java/lang/IllegalStateException", Cond.fieldLink RX0 9 "ExamGarden" "lowestGrades" "[I", Cond.fieldLink RX0 13 "ExamGarden" "highestGrades" "[I", Cond.fieldLink RX0 25 "ExamGarden" "grades" "[I", Cond.fieldLink RX0 115 "ExamGarden" "gradedCount" "I", Cond.fieldLink RX0 118 "ExamGarden" "gradeSum" "I", Cond.methodLink RX0 97 yX0_requireExam, Cond.instanceMethod yX0_requireExam, Cond.selects RX0 yX0_requireExam yX0_requireExam, Cond.code yX0_requireExam cX0_requireExam 2 none, Cond.classLink RX0 250 "java/lang/IndexOutOfBoundsException", Cond.initialized "java/lang/IndexOutOfBoundsException", Cond.methodLink RX0 84 yX0_requirePlace]
def wsL_grade_r2 : List Cond := [Cond.instanceMethod yX0_requirePlace, Cond.selects RX0 yX0_requirePlace yX0_requirePlace, Cond.code yX0_requirePlace cX0_requirePlace 2 none, Cond.fieldLink RX0 60 "ExamGarden" "placeCount" "I", Cond.methodLink RX0 135 yX0_holdsExam, Cond.instanceMethod yX0_holdsExam, Cond.selects RX0 yX0_holdsExam yX0_holdsExam, Cond.code yX0_holdsExam cX0_holdsExam 2 (some .boolean), Cond.fieldLink RX0 64 "ExamGarden" "examBits" "J", Cond.methodLink RX0 68 yX0_bitOf, Cond.static yX0_bitOf, Cond.code yX0_bitOf cX0_bitOf 1 (some .long), Cond.methodLink RX0 100 yX0_at, Cond.static yX0_at, Cond.code yX0_at cX0_at 2 (some .int), Cond.methodLink RX0 106 yX0_hasGrade, Cond.instanceMethod yX0_hasGrade, Cond.selects RX0 yX0_hasGrade yX0_hasGrade, Cond.code yX0_hasGrade cX0_hasGrade 2 (some .boolean), Cond.methodLink RX0 72 yX0_put, Cond.static yX0_put, Cond.code yX0_put cX0_put 3 none, Cond.methodLink RX0 80 yX0_settleExam, Cond.instanceMethod yX0_settleExam]
def wsL_grade_r3 : List Cond := [Cond.selects RX0 yX0_settleExam yX0_settleExam, Cond.code yX0_settleExam cX0_settleExam 4 none, Cond.fieldLink RX0 28 "ExamGarden" "sureGrades" "[I", Cond.fieldLink RX0 31 "ExamGarden" "hopes" "[I", Cond.fieldLink RX0 34 "ExamGarden" "hindsights" "[I", Cond.methodLink RX0 121 yX0_settleForksAfter, Cond.instanceMethod yX0_settleForksAfter, Cond.selects RX0 yX0_settleForksAfter yX0_settleForksAfter, Cond.code yX0_settleForksAfter cX0_settleForksAfter 3 none, Cond.methodLink RX0 94 yX0_settleFork, Cond.instanceMethod yX0_settleFork, Cond.selects RX0 yX0_settleFork yX0_settleFork, Cond.code yX0_settleFork cX0_settleFork 2 none, Cond.methodLink RX0 265 yX0_settleGreater, Cond.instanceMethod yX0_settleGreater, Cond.selects RX0 yX0_settleGreater yX0_settleGreater, Cond.code yX0_settleGreater cX0_settleGreater 3 none, Cond.fieldLink RX0 16 "ExamGarden" "lefts" "[I", Cond.fieldLink RX0 19 "ExamGarden" "rights" "[I", Cond.methodLink RX0 269 Lib.Math.max.name, Cond.static Lib.Math.max.name, Cond.initialized "java/lang/Math", Cond.code Lib.Math.max.name Lib.Math.max.code 2 (some .int)]
def wsL_grade : List Cond := .codeWith yL_grade cL_grade 5 (some .int) [(0, 10, 13, 21), (0, 10, 17, 13), (0, 10, 21, 15)] :: ((wsL_grade_r1 ++ (wsL_grade_r2 ++ wsL_grade_r3)) ++ wsX00 ++ (vx_atS RX0 54 "java/lang/IllegalArgumentException" ["java/lang/RuntimeException", "java/lang/Exception"]).filter goodWord ++ (vx_atS RX0 114 "java/lang/IllegalStateException" ["java/lang/RuntimeException", "java/lang/Exception"]).filter goodWord ++ (vx_atS RX0 254 "java/lang/IndexOutOfBoundsException" ["java/lang/RuntimeException", "java/lang/Exception"]).filter goodWord)
def wsL_weigh_r1 : List Cond := [Cond.classLink RL 21 "java/lang/IndexOutOfBoundsException", Cond.classLink RL 13 "java/lang/IllegalArgumentException", Cond.methodLink RL 26 yX0_weigh, Cond.instanceMethod yX0_weigh, Cond.selects RX0 yX0_weigh yX0_weigh, Cond.initialized RX0, Cond.code yX0_weigh cX0_weigh 4 (some .int), Cond.fieldLink RX0 22 "ExamGarden" "weights" "[I", Cond.methodLink RX0 124 yX0_requireFork, Cond.instanceMethod yX0_requireFork, Cond.selects RX0 yX0_requireFork yX0_requireFork, Cond.code yX0_requireFork cX0_requireFork 2 none, Cond.classLink RX0 250 "java/lang/IndexOutOfBoundsException", Cond.initialized "java/lang/IndexOutOfBoundsException", Cond.methodLink RX0 84 yX0_requirePlace, Cond.instanceMethod yX0_requirePlace, Cond.selects RX0 yX0_requirePlace yX0_requirePlace, Cond.code yX0_requirePlace cX0_requirePlace 2 none, Cond.fieldLink RX0 60 "ExamGarden" "placeCount" "I", Cond.methodLink RX0 135 yX0_holdsExam, Cond.instanceMethod yX0_holdsExam, Cond.selects RX0 yX0_holdsExam yX0_holdsExam, Cond.code yX0_holdsExam cX0_holdsExam 2 (some .boolean), Cond.fieldLink RX0 64 "ExamGarden" "examBits" "J"]
def wsL_weigh_r2 : List Cond := [Cond.methodLink RX0 68 yX0_bitOf, Cond.static yX0_bitOf, Cond.code yX0_bitOf cX0_bitOf 1 (some .long), Cond.methodLink RX0 87 yX0_requireWeight, Cond.static yX0_requireWeight, Cond.code yX0_requireWeight cX0_requireWeight 1 none, Cond.classLink RX0 50 "java/lang/IllegalArgumentException", Cond.initialized "java/lang/IllegalArgumentException", Cond.methodLink RX0 100 yX0_at, Cond.static yX0_at, Cond.code yX0_at cX0_at 2 (some .int), Cond.methodLink RX0 72 yX0_put, Cond.static yX0_put, Cond.code yX0_put cX0_put 3 none]
def wsL_weigh : List Cond := .codeWith yL_weigh cL_weigh 5 (some .int) [(0, 10, 13, 21), (0, 10, 17, 13)] :: ((wsL_weigh_r1 ++ wsL_weigh_r2) ++ wsX00 ++ (vx_atS RX0 254 "java/lang/IndexOutOfBoundsException" ["java/lang/RuntimeException", "java/lang/Exception"]).filter goodWord ++ (vx_atS RX0 54 "java/lang/IllegalArgumentException" ["java/lang/RuntimeException", "java/lang/Exception"]).filter goodWord)
def wsL_enroll : List Cond := .codeWith yL_enroll cL_enroll 4 (some .int) [(0, 9, 12, 21), (0, 9, 15, 15)] :: ([.classLink RL 21 "java/lang/IndexOutOfBoundsException", .classLink RL 15 "java/lang/IllegalStateException", .methodLink RL 29 yX0_enroll, .instanceMethod yX0_enroll, .selects RX0 yX0_enroll yX0_enroll, .initialized RX0, .code yX0_enroll cX0_enroll 3 (some .int), .classLink RX0 110 "java/lang/IllegalStateException", .initialized "java/lang/IllegalStateException", .fieldLink RX0 127 "ExamGarden" "studentCount" "I", .fieldLink RX0 41 "ExamGarden" "standing" "[I", .methodLink RX0 84 yX0_requirePlace, .instanceMethod yX0_requirePlace, .selects RX0 yX0_requirePlace yX0_requirePlace, .code yX0_requirePlace cX0_requirePlace 2 none, .classLink RX0 250 "java/lang/IndexOutOfBoundsException", .initialized "java/lang/IndexOutOfBoundsException", .fieldLink RX0 60 "ExamGarden" "placeCount" "I", .methodLink RX0 72 yX0_put, .static yX0_put, .code yX0_put cX0_put 3 none] ++ wsX00 ++ (vx_atS RX0 114 "java/lang/IllegalStateException" ["java/lang/RuntimeException", "java/lang/Exception"]).filter goodWord ++ (vx_atS RX0 254 "java/lang/IndexOutOfBoundsException" ["java/lang/RuntimeException", "java/lang/Exception"]).filter goodWord)
def wsL_turn_r1 : List Cond := [Cond.classLink RL 21 "java/lang/IndexOutOfBoundsException", Cond.classLink RL 15 "java/lang/IllegalStateException", Cond.methodLink RL 33 yX0_turn, Cond.instanceMethod yX0_turn, Cond.selects RX0 yX0_turn yX0_turn, Cond.initialized RX0, Cond.code yX0_turn cX0_turn 3 (some .int), Cond.classLink RX0 110 "java/lang/IllegalStateException", Cond.initialized "java/lang/IllegalStateException", Cond.fieldLink RX0 41 "ExamGarden" "standing" "[I", Cond.methodLink RX0 132 yX0_requireStudent, Cond.instanceMethod yX0_requireStudent, Cond.selects RX0 yX0_requireStudent yX0_requireStudent, Cond.code yX0_requireStudent cX0_requireStudent 2 none, Cond.classLink RX0 250 "java/lang/IndexOutOfBoundsException", Cond.initialized "java/lang/IndexOutOfBoundsException", Cond.fieldLink RX0 127 "ExamGarden" "studentCount" "I", Cond.methodLink RX0 100 yX0_at, Cond.static yX0_at, Cond.code yX0_at cX0_at 2 (some .int), Cond.methodLink RX0 135 yX0_holdsExam, Cond.instanceMethod yX0_holdsExam, Cond.selects RX0 yX0_holdsExam yX0_holdsExam, Cond.code yX0_holdsExam cX0_holdsExam 2 (some .boolean)]
def wsL_turn_r2 : List Cond := [Cond.fieldLink RX0 64 "ExamGarden" "examBits" "J", Cond.methodLink RX0 68 yX0_bitOf, Cond.static yX0_bitOf, Cond.code yX0_bitOf cX0_bitOf 1 (some .long), Cond.methodLink RX0 140 yX0_walk, Cond.instanceMethod yX0_walk, Cond.selects RX0 yX0_walk yX0_walk, Cond.code yX0_walk cX0_walk 5 none, Cond.fieldLink RX0 44 "ExamGarden" "passedCounts" "[I", Cond.fieldLink RX0 47 "ExamGarden" "passedForks" "[I", Cond.methodLink RX0 72 yX0_put, Cond.static yX0_put, Cond.code yX0_put cX0_put 3 none, Cond.methodLink RX0 163 yX0_pathFrom, Cond.instanceMethod yX0_pathFrom, Cond.selects RX0 yX0_pathFrom yX0_pathFrom, Cond.code yX0_pathFrom cX0_pathFrom 3 (some .int), Cond.fieldLink RX0 19 "ExamGarden" "rights" "[I", Cond.fieldLink RX0 16 "ExamGarden" "lefts" "[I"]
def wsL_turn : List Cond := .codeWith yL_turn cL_turn 5 (some .int) [(0, 10, 13, 21), (0, 10, 17, 15)] :: ((wsL_turn_r1 ++ wsL_turn_r2) ++ wsX00 ++ (vx_atS RX0 114 "java/lang/IllegalStateException" ["java/lang/RuntimeException", "java/lang/Exception"]).filter goodWord ++ (vx_atS RX0 254 "java/lang/IndexOutOfBoundsException" ["java/lang/RuntimeException", "java/lang/Exception"]).filter goodWord)
def wsL_goBack_r1 : List Cond := [Cond.classLink RL 21 "java/lang/IndexOutOfBoundsException", Cond.classLink RL 15 "java/lang/IllegalStateException", Cond.methodLink RL 37 yX0_goBack, Cond.instanceMethod yX0_goBack, Cond.selects RX0 yX0_goBack yX0_goBack, Cond.initialized RX0, Cond.code yX0_goBack cX0_goBack 4 (some .int), Cond.classLink RX0 110 "java/lang/IllegalStateException", Cond.initialized "java/lang/IllegalStateException", Cond.fieldLink RX0 44 "ExamGarden" "passedCounts" "[I", Cond.fieldLink RX0 41 "ExamGarden" "standing" "[I", Cond.methodLink RX0 132 yX0_requireStudent, Cond.instanceMethod yX0_requireStudent, Cond.selects RX0 yX0_requireStudent yX0_requireStudent, Cond.code yX0_requireStudent cX0_requireStudent 2 none, Cond.classLink RX0 250 "java/lang/IndexOutOfBoundsException", Cond.initialized "java/lang/IndexOutOfBoundsException", Cond.fieldLink RX0 127 "ExamGarden" "studentCount" "I", Cond.methodLink RX0 100 yX0_at, Cond.static yX0_at, Cond.code yX0_at cX0_at 2 (some .int), Cond.methodLink RX0 146 yX0_passedFork, Cond.instanceMethod yX0_passedFork, Cond.selects RX0 yX0_passedFork yX0_passedFork]
def wsL_goBack_r2 : List Cond := [Cond.code yX0_passedFork cX0_passedFork 3 (some .int), Cond.fieldLink RX0 47 "ExamGarden" "passedForks" "[I", Cond.methodLink RX0 72 yX0_put, Cond.static yX0_put, Cond.code yX0_put cX0_put 3 none]
def wsL_goBack : List Cond := .codeWith yL_goBack cL_goBack 4 (some .int) [(0, 9, 12, 21), (0, 9, 15, 15)] :: ((wsL_goBack_r1 ++ wsL_goBack_r2) ++ wsX00 ++ (vx_atS RX0 114 "java/lang/IllegalStateException" ["java/lang/RuntimeException", "java/lang/Exception"]).filter goodWord ++ (vx_atS RX0 254 "java/lang/IndexOutOfBoundsException" ["java/lang/RuntimeException", "java/lang/Exception"]).filter goodWord)
def wsL_follow_r1 : List Cond := [Cond.classLink RL 21 "java/lang/IndexOutOfBoundsException", Cond.methodLink RL 40 yX0_follow, Cond.instanceMethod yX0_follow, Cond.selects RX0 yX0_follow yX0_follow, Cond.initialized RX0, Cond.code yX0_follow cX0_follow 3 (some .int), Cond.fieldLink RX0 41 "ExamGarden" "standing" "[I", Cond.methodLink RX0 132 yX0_requireStudent, Cond.instanceMethod yX0_requireStudent, Cond.selects RX0 yX0_requireStudent yX0_requireStudent, Cond.code yX0_requireStudent cX0_requireStudent 2 none, Cond.classLink RX0 250 "java/lang/IndexOutOfBoundsException", Cond.initialized "java/lang/IndexOutOfBoundsException", Cond.fieldLink RX0 127 "ExamGarden" "studentCount" "I", Cond.methodLink RX0 100 yX0_at, Cond.static yX0_at, Cond.code yX0_at cX0_at 2 (some .int), Cond.methodLink RX0 135 yX0_holdsExam, Cond.instanceMethod yX0_holdsExam, Cond.selects RX0 yX0_holdsExam yX0_holdsExam, Cond.code yX0_holdsExam cX0_holdsExam 2 (some .boolean), Cond.fieldLink RX0 64 "ExamGarden" "examBits" "J", Cond.methodLink RX0 68 yX0_bitOf, Cond.static yX0_bitOf]
def wsL_follow_r2 : List Cond := [Cond.code yX0_bitOf cX0_bitOf 1 (some .long), Cond.methodLink RX0 150 yX0_plansRight, Cond.instanceMethod yX0_plansRight, Cond.selects RX0 yX0_plansRight yX0_plansRight, Cond.code yX0_plansRight cX0_plansRight 2 (some .boolean), Cond.methodLink RX0 159 yX0_riskOfPath, Cond.instanceMethod yX0_riskOfPath, Cond.selects RX0 yX0_riskOfPath yX0_riskOfPath, Cond.code yX0_riskOfPath cX0_riskOfPath 5 (some .int), Cond.fieldLink RX0 28 "ExamGarden" "sureGrades" "[I", Cond.fieldLink RX0 31 "ExamGarden" "hopes" "[I", Cond.methodLink RX0 269 Lib.Math.max.name, Cond.static Lib.Math.max.name, Cond.initialized "java/lang/Math", Cond.code Lib.Math.max.name Lib.Math.max.code 2 (some .int), Cond.fieldLink RX0 22 "ExamGarden" "weights" "[I", Cond.methodLink RX0 163 yX0_pathFrom, Cond.instanceMethod yX0_pathFrom, Cond.selects RX0 yX0_pathFrom yX0_pathFrom, Cond.code yX0_pathFrom cX0_pathFrom 3 (some .int), Cond.fieldLink RX0 19 "ExamGarden" "rights" "[I", Cond.fieldLink RX0 16 "ExamGarden" "lefts" "[I", Cond.methodLink RX0 140 yX0_walk, Cond.instanceMethod yX0_walk]
def wsL_follow_r3 : List Cond := [Cond.selects RX0 yX0_walk yX0_walk, Cond.code yX0_walk cX0_walk 5 none, Cond.fieldLink RX0 44 "ExamGarden" "passedCounts" "[I", Cond.fieldLink RX0 47 "ExamGarden" "passedForks" "[I", Cond.methodLink RX0 72 yX0_put, Cond.static yX0_put, Cond.code yX0_put cX0_put 3 none]
def wsL_follow : List Cond := .codeWith yL_follow cL_follow 4 (some .int) [(0, 9, 12, 21)] :: ((wsL_follow_r1 ++ (wsL_follow_r2 ++ wsL_follow_r3)) ++ wsX00 ++ (vx_atS RX0 254 "java/lang/IndexOutOfBoundsException" ["java/lang/RuntimeException", "java/lang/Exception"]).filter goodWord)
def wsL_isExam : List Cond := .codeWith yL_isExam cL_isExam 4 (some .int) [(0, 16, 19, 21)] :: ([.classLink RL 21 "java/lang/IndexOutOfBoundsException", .methodLink RL 43 yX0_isExam, .instanceMethod yX0_isExam, .selects RX0 yX0_isExam yX0_isExam, .initialized RX0, .code yX0_isExam cX0_isExam 2 (some .boolean), .methodLink RX0 84 yX0_requirePlace, .instanceMethod yX0_requirePlace, .selects RX0 yX0_requirePlace yX0_requirePlace, .code yX0_requirePlace cX0_requirePlace 2 none, .classLink RX0 250 "java/lang/IndexOutOfBoundsException", .initialized "java/lang/IndexOutOfBoundsException", .fieldLink RX0 60 "ExamGarden" "placeCount" "I", .methodLink RX0 135 yX0_holdsExam, .instanceMethod yX0_holdsExam, .selects RX0 yX0_holdsExam yX0_holdsExam, .code yX0_holdsExam cX0_holdsExam 2 (some .boolean), .fieldLink RX0 64 "ExamGarden" "examBits" "J", .methodLink RX0 68 yX0_bitOf, .static yX0_bitOf, .code yX0_bitOf cX0_bitOf 1 (some .long)] ++ wsX00 ++ (vx_atS RX0 254 "java/lang/IndexOutOfBoundsException" ["java/lang/RuntimeException", "java/lang/Exception"]).filter goodWord)
def wsL_isGraded_r1 : List Cond := [Cond.classLink RL 21 "java/lang/IndexOutOfBoundsException", Cond.methodLink RL 47 yX0_isGraded, Cond.instanceMethod yX0_isGraded, Cond.selects RX0 yX0_isGraded yX0_isGraded, Cond.initialized RX0, Cond.code yX0_isGraded cX0_isGraded 2 (some .boolean), Cond.methodLink RX0 97 yX0_requireExam, Cond.instanceMethod yX0_requireExam, Cond.selects RX0 yX0_requireExam yX0_requireExam, Cond.code yX0_requireExam cX0_requireExam 2 none, Cond.classLink RX0 250 "java/lang/IndexOutOfBoundsException", Cond.initialized "java/lang/IndexOutOfBoundsException", Cond.methodLink RX0 84 yX0_requirePlace, Cond.instanceMethod yX0_requirePlace, Cond.selects RX0 yX0_requirePlace yX0_requirePlace, Cond.code yX0_requirePlace cX0_requirePlace 2 none, Cond.fieldLink RX0 60 "ExamGarden" "placeCount" "I", Cond.methodLink RX0 135 yX0_holdsExam, Cond.instanceMethod yX0_holdsExam, Cond.selects RX0 yX0_holdsExam yX0_holdsExam, Cond.code yX0_holdsExam cX0_holdsExam 2 (some .boolean), Cond.fieldLink RX0 64 "ExamGarden" "examBits" "J", Cond.methodLink RX0 68 yX0_bitOf, Cond.static yX0_bitOf]
def wsL_isGraded_r2 : List Cond := [Cond.code yX0_bitOf cX0_bitOf 1 (some .long), Cond.methodLink RX0 106 yX0_hasGrade, Cond.instanceMethod yX0_hasGrade, Cond.selects RX0 yX0_hasGrade yX0_hasGrade, Cond.code yX0_hasGrade cX0_hasGrade 2 (some .boolean), Cond.fieldLink RX0 25 "ExamGarden" "grades" "[I", Cond.methodLink RX0 100 yX0_at, Cond.static yX0_at, Cond.code yX0_at cX0_at 2 (some .int)]
def wsL_isGraded : List Cond := .codeWith yL_isGraded cL_isGraded 4 (some .int) [(0, 16, 19, 21)] :: ((wsL_isGraded_r1 ++ wsL_isGraded_r2) ++ wsX00 ++ (vx_atS RX0 254 "java/lang/IndexOutOfBoundsException" ["java/lang/RuntimeException", "java/lang/Exception"]).filter goodWord)
def wsL_gradeOf_r1 : List Cond := [Cond.classLink RL 21 "java/lang/IndexOutOfBoundsException", Cond.methodLink RL 50 yX0_gradeOf, Cond.instanceMethod yX0_gradeOf, Cond.selects RX0 yX0_gradeOf yX0_gradeOf, Cond.initialized RX0, Cond.code yX0_gradeOf cX0_gradeOf 2 (some .int), Cond.fieldLink RX0 25 "ExamGarden" "grades" "[I", Cond.methodLink RX0 97 yX0_requireExam, Cond.instanceMethod yX0_requireExam, Cond.selects RX0 yX0_requireExam yX0_requireExam, Cond.code yX0_requireExam cX0_requireExam 2 none, Cond.classLink RX0 250 "java/lang/IndexOutOfBoundsException", Cond.initialized "java/lang/IndexOutOfBoundsException", Cond.methodLink RX0 84 yX0_requirePlace, Cond.instanceMethod yX0_requirePlace, Cond.selects RX0 yX0_requirePlace yX0_requirePlace, Cond.code yX0_requirePlace cX0_requirePlace 2 none, Cond.fieldLink RX0 60 "ExamGarden" "placeCount" "I", Cond.methodLink RX0 135 yX0_holdsExam, Cond.instanceMethod yX0_holdsExam, Cond.selects RX0 yX0_holdsExam yX0_holdsExam, Cond.code yX0_holdsExam cX0_holdsExam 2 (some .boolean), Cond.fieldLink RX0 64 "ExamGarden" "examBits" "J", Cond.methodLink RX0 68 yX0_bitOf]
def wsL_gradeOf_r2 : List Cond := [Cond.static yX0_bitOf, Cond.code yX0_bitOf cX0_bitOf 1 (some .long), Cond.methodLink RX0 100 yX0_at, Cond.static yX0_at, Cond.code yX0_at cX0_at 2 (some .int)]
def wsL_gradeOf : List Cond := .codeWith yL_gradeOf cL_gradeOf 4 (some .int) [(0, 9, 12, 21)] :: ((wsL_gradeOf_r1 ++ wsL_gradeOf_r2) ++ wsX00 ++ (vx_atS RX0 254 "java/lang/IndexOutOfBoundsException" ["java/lang/RuntimeException", "java/lang/Exception"]).filter goodWord)
def wsL_leftOf_r1 : List Cond := [Cond.classLink RL 21 "java/lang/IndexOutOfBoundsException", Cond.methodLink RL 53 yX0_leftOf, Cond.instanceMethod yX0_leftOf, Cond.selects RX0 yX0_leftOf yX0_leftOf, Cond.initialized RX0, Cond.code yX0_leftOf cX0_leftOf 2 (some .int), Cond.fieldLink RX0 16 "ExamGarden" "lefts" "[I", Cond.methodLink RX0 124 yX0_requireFork, Cond.instanceMethod yX0_requireFork, Cond.selects RX0 yX0_requireFork yX0_requireFork, Cond.code yX0_requireFork cX0_requireFork 2 none, Cond.classLink RX0 250 "java/lang/IndexOutOfBoundsException", Cond.initialized "java/lang/IndexOutOfBoundsException", Cond.methodLink RX0 84 yX0_requirePlace, Cond.instanceMethod yX0_requirePlace, Cond.selects RX0 yX0_requirePlace yX0_requirePlace, Cond.code yX0_requirePlace cX0_requirePlace 2 none, Cond.fieldLink RX0 60 "ExamGarden" "placeCount" "I", Cond.methodLink RX0 135 yX0_holdsExam, Cond.instanceMethod yX0_holdsExam, Cond.selects RX0 yX0_holdsExam yX0_holdsExam, Cond.code yX0_holdsExam cX0_holdsExam 2 (some .boolean), Cond.fieldLink RX0 64 "ExamGarden" "examBits" "J", Cond.methodLink RX0 68 yX0_bitOf]
def wsL_leftOf_r2 : List Cond := [Cond.static yX0_bitOf, Cond.code yX0_bitOf cX0_bitOf 1 (some .long), Cond.methodLink RX0 100 yX0_at, Cond.static yX0_at, Cond.code yX0_at cX0_at 2 (some .int)]
def wsL_leftOf : List Cond := .codeWith yL_leftOf cL_leftOf 4 (some .int) [(0, 9, 12, 21)] :: ((wsL_leftOf_r1 ++ wsL_leftOf_r2) ++ wsX00 ++ (vx_atS RX0 254 "java/lang/IndexOutOfBoundsException" ["java/lang/RuntimeException", "java/lang/Exception"]).filter goodWord)
def wsL_rightOf_r1 : List Cond := [Cond.classLink RL 21 "java/lang/IndexOutOfBoundsException", Cond.methodLink RL 56 yX0_rightOf, Cond.instanceMethod yX0_rightOf, Cond.selects RX0 yX0_rightOf yX0_rightOf, Cond.initialized RX0, Cond.code yX0_rightOf cX0_rightOf 2 (some .int), Cond.fieldLink RX0 19 "ExamGarden" "rights" "[I", Cond.methodLink RX0 124 yX0_requireFork, Cond.instanceMethod yX0_requireFork, Cond.selects RX0 yX0_requireFork yX0_requireFork, Cond.code yX0_requireFork cX0_requireFork 2 none, Cond.classLink RX0 250 "java/lang/IndexOutOfBoundsException", Cond.initialized "java/lang/IndexOutOfBoundsException", Cond.methodLink RX0 84 yX0_requirePlace, Cond.instanceMethod yX0_requirePlace, Cond.selects RX0 yX0_requirePlace yX0_requirePlace, Cond.code yX0_requirePlace cX0_requirePlace 2 none, Cond.fieldLink RX0 60 "ExamGarden" "placeCount" "I", Cond.methodLink RX0 135 yX0_holdsExam, Cond.instanceMethod yX0_holdsExam, Cond.selects RX0 yX0_holdsExam yX0_holdsExam, Cond.code yX0_holdsExam cX0_holdsExam 2 (some .boolean), Cond.fieldLink RX0 64 "ExamGarden" "examBits" "J", Cond.methodLink RX0 68 yX0_bitOf]
def wsL_rightOf_r2 : List Cond := [Cond.static yX0_bitOf, Cond.code yX0_bitOf cX0_bitOf 1 (some .long), Cond.methodLink RX0 100 yX0_at, Cond.static yX0_at, Cond.code yX0_at cX0_at 2 (some .int)]
def wsL_rightOf : List Cond := .codeWith yL_rightOf cL_rightOf 4 (some .int) [(0, 9, 12, 21)] :: ((wsL_rightOf_r1 ++ wsL_rightOf_r2) ++ wsX00 ++ (vx_atS RX0 254 "java/lang/IndexOutOfBoundsException" ["java/lang/RuntimeException", "java/lang/Exception"]).filter goodWord)
def wsL_weightOf_r1 : List Cond := [Cond.classLink RL 21 "java/lang/IndexOutOfBoundsException", Cond.methodLink RL 59 yX0_weightOf, Cond.instanceMethod yX0_weightOf, Cond.selects RX0 yX0_weightOf yX0_weightOf, Cond.initialized RX0, Cond.code yX0_weightOf cX0_weightOf 2 (some .int), Cond.fieldLink RX0 22 "ExamGarden" "weights" "[I", Cond.methodLink RX0 124 yX0_requireFork, Cond.instanceMethod yX0_requireFork, Cond.selects RX0 yX0_requireFork yX0_requireFork, Cond.code yX0_requireFork cX0_requireFork 2 none, Cond.classLink RX0 250 "java/lang/IndexOutOfBoundsException", Cond.initialized "java/lang/IndexOutOfBoundsException", Cond.methodLink RX0 84 yX0_requirePlace, Cond.instanceMethod yX0_requirePlace, Cond.selects RX0 yX0_requirePlace yX0_requirePlace, Cond.code yX0_requirePlace cX0_requirePlace 2 none, Cond.fieldLink RX0 60 "ExamGarden" "placeCount" "I", Cond.methodLink RX0 135 yX0_holdsExam, Cond.instanceMethod yX0_holdsExam, Cond.selects RX0 yX0_holdsExam yX0_holdsExam, Cond.code yX0_holdsExam cX0_holdsExam 2 (some .boolean), Cond.fieldLink RX0 64 "ExamGarden" "examBits" "J", Cond.methodLink RX0 68 yX0_bitOf]
def wsL_weightOf_r2 : List Cond := [Cond.static yX0_bitOf, Cond.code yX0_bitOf cX0_bitOf 1 (some .long), Cond.methodLink RX0 100 yX0_at, Cond.static yX0_at, Cond.code yX0_at cX0_at 2 (some .int)]
def wsL_weightOf : List Cond := .codeWith yL_weightOf cL_weightOf 4 (some .int) [(0, 9, 12, 21)] :: ((wsL_weightOf_r1 ++ wsL_weightOf_r2) ++ wsX00 ++ (vx_atS RX0 254 "java/lang/IndexOutOfBoundsException" ["java/lang/RuntimeException", "java/lang/Exception"]).filter goodWord)
def wsL_placeOf : List Cond := .codeWith yL_placeOf cL_placeOf 4 (some .int) [(0, 9, 12, 21)] :: ([.classLink RL 21 "java/lang/IndexOutOfBoundsException", .methodLink RL 62 yX0_placeOf, .instanceMethod yX0_placeOf, .selects RX0 yX0_placeOf yX0_placeOf, .initialized RX0, .code yX0_placeOf cX0_placeOf 2 (some .int), .fieldLink RX0 41 "ExamGarden" "standing" "[I", .methodLink RX0 132 yX0_requireStudent, .instanceMethod yX0_requireStudent, .selects RX0 yX0_requireStudent yX0_requireStudent, .code yX0_requireStudent cX0_requireStudent 2 none, .classLink RX0 250 "java/lang/IndexOutOfBoundsException", .initialized "java/lang/IndexOutOfBoundsException", .fieldLink RX0 127 "ExamGarden" "studentCount" "I", .methodLink RX0 100 yX0_at, .static yX0_at, .code yX0_at cX0_at 2 (some .int)] ++ wsX00 ++ (vx_atS RX0 254 "java/lang/IndexOutOfBoundsException" ["java/lang/RuntimeException", "java/lang/Exception"]).filter goodWord)
def wsL_passedBy : List Cond := .codeWith yL_passedBy cL_passedBy 4 (some .int) [(0, 9, 12, 21)] :: ([.classLink RL 21 "java/lang/IndexOutOfBoundsException", .methodLink RL 65 yX0_passedBy, .instanceMethod yX0_passedBy, .selects RX0 yX0_passedBy yX0_passedBy, .initialized RX0, .code yX0_passedBy cX0_passedBy 2 (some .int), .fieldLink RX0 44 "ExamGarden" "passedCounts" "[I", .methodLink RX0 132 yX0_requireStudent, .instanceMethod yX0_requireStudent, .selects RX0 yX0_requireStudent yX0_requireStudent, .code yX0_requireStudent cX0_requireStudent 2 none, .classLink RX0 250 "java/lang/IndexOutOfBoundsException", .initialized "java/lang/IndexOutOfBoundsException", .fieldLink RX0 127 "ExamGarden" "studentCount" "I", .methodLink RX0 100 yX0_at, .static yX0_at, .code yX0_at cX0_at 2 (some .int)] ++ wsX00 ++ (vx_atS RX0 254 "java/lang/IndexOutOfBoundsException" ["java/lang/RuntimeException", "java/lang/Exception"]).filter goodWord)
def wsL_sureGrade : List Cond := .codeWith yL_sureGrade cL_sureGrade 4 (some .int) [(0, 9, 12, 21)] :: ([.classLink RL 21 "java/lang/IndexOutOfBoundsException", .methodLink RL 68 yX0_sureGrade, .instanceMethod yX0_sureGrade, .selects RX0 yX0_sureGrade yX0_sureGrade, .initialized RX0, .code yX0_sureGrade cX0_sureGrade 2 (some .int), .fieldLink RX0 28 "ExamGarden" "sureGrades" "[I", .methodLink RX0 84 yX0_requirePlace, .instanceMethod yX0_requirePlace, .selects RX0 yX0_requirePlace yX0_requirePlace, .code yX0_requirePlace cX0_requirePlace 2 none, .classLink RX0 250 "java/lang/IndexOutOfBoundsException", .initialized "java/lang/IndexOutOfBoundsException", .fieldLink RX0 60 "ExamGarden" "placeCount" "I", .methodLink RX0 100 yX0_at, .static yX0_at, .code yX0_at cX0_at 2 (some .int)] ++ wsX00 ++ (vx_atS RX0 254 "java/lang/IndexOutOfBoundsException" ["java/lang/RuntimeException", "java/lang/Exception"]).filter goodWord)
def wsL_hope : List Cond := .codeWith yL_hope cL_hope 4 (some .int) [(0, 9, 12, 21)] :: ([.classLink RL 21 "java/lang/IndexOutOfBoundsException", .methodLink RL 71 yX0_hope, .instanceMethod yX0_hope, .selects RX0 yX0_hope yX0_hope, .initialized RX0, .code yX0_hope cX0_hope 2 (some .int), .fieldLink RX0 31 "ExamGarden" "hopes" "[I", .methodLink RX0 84 yX0_requirePlace, .instanceMethod yX0_requirePlace, .selects RX0 yX0_requirePlace yX0_requirePlace, .code yX0_requirePlace cX0_requirePlace 2 none, .classLink RX0 250 "java/lang/IndexOutOfBoundsException", .initialized "java/lang/IndexOutOfBoundsException", .fieldLink RX0 60 "ExamGarden" "placeCount" "I", .methodLink RX0 100 yX0_at, .static yX0_at, .code yX0_at cX0_at 2 (some .int)] ++ wsX00 ++ (vx_atS RX0 254 "java/lang/IndexOutOfBoundsException" ["java/lang/RuntimeException", "java/lang/Exception"]).filter goodWord)
def wsL_reaches : List Cond := .codeWith yL_reaches cL_reaches 5 (some .int) [(0, 17, 20, 21)] :: ([.classLink RL 21 "java/lang/IndexOutOfBoundsException", .methodLink RL 74 yX0_reaches, .instanceMethod yX0_reaches, .selects RX0 yX0_reaches yX0_reaches, .initialized RX0, .code yX0_reaches cX0_reaches 3 (some .boolean), .fieldLink RX0 37 "ExamGarden" "reachedBits" "[J", .methodLink RX0 84 yX0_requirePlace, .instanceMethod yX0_requirePlace, .selects RX0 yX0_requirePlace yX0_requirePlace, .code yX0_requirePlace cX0_requirePlace 2 none, .classLink RX0 250 "java/lang/IndexOutOfBoundsException", .initialized "java/lang/IndexOutOfBoundsException", .fieldLink RX0 60 "ExamGarden" "placeCount" "I", .methodLink RX0 90 yX0_bitsAt, .static yX0_bitsAt, .code yX0_bitsAt cX0_bitsAt 2 (some .long), .methodLink RX0 68 yX0_bitOf, .static yX0_bitOf, .code yX0_bitOf cX0_bitOf 1 (some .long)] ++ wsX00 ++ (vx_atS RX0 254 "java/lang/IndexOutOfBoundsException" ["java/lang/RuntimeException", "java/lang/Exception"]).filter goodWord)
def wsL_examsFrom_r1 : List Cond := [Cond.classLink RL 21 "java/lang/IndexOutOfBoundsException", Cond.methodLink RL 78 yX0_examsFrom, Cond.instanceMethod yX0_examsFrom, Cond.selects RX0 yX0_examsFrom yX0_examsFrom, Cond.initialized RX0, Cond.code yX0_examsFrom cX0_examsFrom 2 (some .int), Cond.fieldLink RX0 37 "ExamGarden" "reachedBits" "[J", Cond.fieldLink RX0 64 "ExamGarden" "examBits" "J", Cond.methodLink RX0 84 yX0_requirePlace, Cond.instanceMethod yX0_requirePlace, Cond.selects RX0 yX0_requirePlace yX0_requirePlace, Cond.code yX0_requirePlace cX0_requirePlace 2 none, Cond.classLink RX0 250 "java/lang/IndexOutOfBoundsException", Cond.initialized "java/lang/IndexOutOfBoundsException", Cond.fieldLink RX0 60 "ExamGarden" "placeCount" "I", Cond.methodLink RX0 90 yX0_bitsAt, Cond.static yX0_bitsAt, Cond.code yX0_bitsAt cX0_bitsAt 2 (some .long), Cond.methodLink RX0 153 yJ13_bitCount_95d88, Cond.static yJ13_bitCount_95d88, Cond.initialized RJ13, Cond.code yJ13_bitCount_95d88 cJ13_bitCount_95d88 2 (some .int), Cond.constantLong RJ13 314 (6148914691236517205), Cond.constantLong RJ13 316 (3689348814741910323)]
def wsL_examsFrom_r2 : List Cond := [Cond.constantLong RJ13 318 (1085102592571150095)]
def wsL_examsFrom : List Cond := .codeWith yL_examsFrom cL_examsFrom 4 (some .int) [(0, 9, 12, 21)] :: ((wsL_examsFrom_r1 ++ wsL_examsFrom_r2) ++ wsX00 ++ (vx_atS RX0 254 "java/lang/IndexOutOfBoundsException" ["java/lang/RuntimeException", "java/lang/Exception"]).filter goodWord)
def wsL_risk_r1 : List Cond := [Cond.classLink RL 21 "java/lang/IndexOutOfBoundsException", Cond.methodLink RL 81 yX0_risk, Cond.instanceMethod yX0_risk, Cond.selects RX0 yX0_risk yX0_risk, Cond.initialized RX0, Cond.code yX0_risk cX0_risk 3 (some .int), Cond.methodLink RX0 124 yX0_requireFork, Cond.instanceMethod yX0_requireFork, Cond.selects RX0 yX0_requireFork yX0_requireFork, Cond.code yX0_requireFork cX0_requireFork 2 none, Cond.classLink RX0 250 "java/lang/IndexOutOfBoundsException", Cond.initialized "java/lang/IndexOutOfBoundsException", Cond.methodLink RX0 84 yX0_requirePlace, Cond.instanceMethod yX0_requirePlace, Cond.selects RX0 yX0_requirePlace yX0_requirePlace, Cond.code yX0_requirePlace cX0_requirePlace 2 none, Cond.fieldLink RX0 60 "ExamGarden" "placeCount" "I", Cond.methodLink RX0 135 yX0_holdsExam, Cond.instanceMethod yX0_holdsExam, Cond.selects RX0 yX0_holdsExam yX0_holdsExam, Cond.code yX0_holdsExam cX0_holdsExam 2 (some .boolean), Cond.fieldLink RX0 64 "ExamGarden" "examBits" "J", Cond.methodLink RX0 68 yX0_bitOf, Cond.static yX0_bitOf]
def wsL_risk_r2 : List Cond := [Cond.code yX0_bitOf cX0_bitOf 1 (some .long), Cond.methodLink RX0 159 yX0_riskOfPath, Cond.instanceMethod yX0_riskOfPath, Cond.selects RX0 yX0_riskOfPath yX0_riskOfPath, Cond.code yX0_riskOfPath cX0_riskOfPath 5 (some .int), Cond.fieldLink RX0 28 "ExamGarden" "sureGrades" "[I", Cond.fieldLink RX0 31 "ExamGarden" "hopes" "[I", Cond.methodLink RX0 269 Lib.Math.max.name, Cond.static Lib.Math.max.name, Cond.initialized "java/lang/Math", Cond.code Lib.Math.max.name Lib.Math.max.code 2 (some .int), Cond.fieldLink RX0 22 "ExamGarden" "weights" "[I", Cond.methodLink RX0 163 yX0_pathFrom, Cond.instanceMethod yX0_pathFrom, Cond.selects RX0 yX0_pathFrom yX0_pathFrom, Cond.code yX0_pathFrom cX0_pathFrom 3 (some .int), Cond.fieldLink RX0 19 "ExamGarden" "rights" "[I", Cond.fieldLink RX0 16 "ExamGarden" "lefts" "[I", Cond.methodLink RX0 100 yX0_at, Cond.static yX0_at, Cond.code yX0_at cX0_at 2 (some .int)]
def wsL_risk : List Cond := .codeWith yL_risk cL_risk 5 (some .int) [(0, 10, 13, 21)] :: ((wsL_risk_r1 ++ wsL_risk_r2) ++ wsX00 ++ (vx_atS RX0 254 "java/lang/IndexOutOfBoundsException" ["java/lang/RuntimeException", "java/lang/Exception"]).filter goodWord)
def wsL_planTurnsRight_r1 : List Cond := [Cond.classLink RL 21 "java/lang/IndexOutOfBoundsException", Cond.methodLink RL 84 yX0_planTurnsRight, Cond.instanceMethod yX0_planTurnsRight, Cond.selects RX0 yX0_planTurnsRight yX0_planTurnsRight, Cond.initialized RX0, Cond.code yX0_planTurnsRight cX0_planTurnsRight 2 (some .boolean), Cond.methodLink RX0 124 yX0_requireFork, Cond.instanceMethod yX0_requireFork, Cond.selects RX0 yX0_requireFork yX0_requireFork, Cond.code yX0_requireFork cX0_requireFork 2 none, Cond.classLink RX0 250 "java/lang/IndexOutOfBoundsException", Cond.initialized "java/lang/IndexOutOfBoundsException", Cond.methodLink RX0 84 yX0_requirePlace, Cond.instanceMethod yX0_requirePlace, Cond.selects RX0 yX0_requirePlace yX0_requirePlace, Cond.code yX0_requirePlace cX0_requirePlace 2 none, Cond.fieldLink RX0 60 "ExamGarden" "placeCount" "I", Cond.methodLink RX0 135 yX0_holdsExam, Cond.instanceMethod yX0_holdsExam, Cond.selects RX0 yX0_holdsExam yX0_holdsExam, Cond.code yX0_holdsExam cX0_holdsExam 2 (some .boolean), Cond.fieldLink RX0 64 "ExamGarden" "examBits" "J", Cond.methodLink RX0 68 yX0_bitOf, Cond.static yX0_bitOf]
def wsL_planTurnsRight_r2 : List Cond := [Cond.code yX0_bitOf cX0_bitOf 1 (some .long), Cond.methodLink RX0 150 yX0_plansRight, Cond.instanceMethod yX0_plansRight, Cond.selects RX0 yX0_plansRight yX0_plansRight, Cond.code yX0_plansRight cX0_plansRight 2 (some .boolean), Cond.methodLink RX0 159 yX0_riskOfPath, Cond.instanceMethod yX0_riskOfPath, Cond.selects RX0 yX0_riskOfPath yX0_riskOfPath, Cond.code yX0_riskOfPath cX0_riskOfPath 5 (some .int), Cond.fieldLink RX0 28 "ExamGarden" "sureGrades" "[I", Cond.fieldLink RX0 31 "ExamGarden" "hopes" "[I", Cond.methodLink RX0 269 Lib.Math.max.name, Cond.static Lib.Math.max.name, Cond.initialized "java/lang/Math", Cond.code Lib.Math.max.name Lib.Math.max.code 2 (some .int), Cond.fieldLink RX0 22 "ExamGarden" "weights" "[I", Cond.methodLink RX0 163 yX0_pathFrom, Cond.instanceMethod yX0_pathFrom, Cond.selects RX0 yX0_pathFrom yX0_pathFrom, Cond.code yX0_pathFrom cX0_pathFrom 3 (some .int), Cond.fieldLink RX0 19 "ExamGarden" "rights" "[I", Cond.fieldLink RX0 16 "ExamGarden" "lefts" "[I", Cond.methodLink RX0 100 yX0_at, Cond.static yX0_at]
def wsL_planTurnsRight_r3 : List Cond := [Cond.code yX0_at cX0_at 2 (some .int)]
def wsL_planTurnsRight : List Cond := .codeWith yL_planTurnsRight cL_planTurnsRight 4 (some .int) [(0, 16, 19, 21)] :: ((wsL_planTurnsRight_r1 ++ (wsL_planTurnsRight_r2 ++ wsL_planTurnsRight_r3)) ++ wsX00 ++ (vx_atS RX0 254 "java/lang/IndexOutOfBoundsException" ["java/lang/RuntimeException", "java/lang/Exception"]).filter goodWord)
def wsL_planLeadsTo_r1 : List Cond := [Cond.classLink RL 21 "java/lang/IndexOutOfBoundsException", Cond.methodLink RL 87 yX0_planLeadsTo, Cond.instanceMethod yX0_planLeadsTo, Cond.selects RX0 yX0_planLeadsTo yX0_planLeadsTo, Cond.initialized RX0, Cond.code yX0_planLeadsTo cX0_planLeadsTo 4 (some .int), Cond.methodLink RX0 84 yX0_requirePlace, Cond.instanceMethod yX0_requirePlace, Cond.selects RX0 yX0_requirePlace yX0_requirePlace, Cond.code yX0_requirePlace cX0_requirePlace 2 none, Cond.classLink RX0 250 "java/lang/IndexOutOfBoundsException", Cond.initialized "java/lang/IndexOutOfBoundsException", Cond.fieldLink RX0 60 "ExamGarden" "placeCount" "I", Cond.methodLink RX0 135 yX0_holdsExam, Cond.instanceMethod yX0_holdsExam, Cond.selects RX0 yX0_holdsExam yX0_holdsExam, Cond.code yX0_holdsExam cX0_holdsExam 2 (some .boolean), Cond.fieldLink RX0 64 "ExamGarden" "examBits" "J", Cond.methodLink RX0 68 yX0_bitOf, Cond.static yX0_bitOf, Cond.code yX0_bitOf cX0_bitOf 1 (some .long), Cond.methodLink RX0 150 yX0_plansRight, Cond.instanceMethod yX0_plansRight, Cond.selects RX0 yX0_plansRight yX0_plansRight]
def wsL_planLeadsTo_r2 : List Cond := [Cond.code yX0_plansRight cX0_plansRight 2 (some .boolean), Cond.methodLink RX0 159 yX0_riskOfPath, Cond.instanceMethod yX0_riskOfPath, Cond.selects RX0 yX0_riskOfPath yX0_riskOfPath, Cond.code yX0_riskOfPath cX0_riskOfPath 5 (some .int), Cond.fieldLink RX0 28 "ExamGarden" "sureGrades" "[I", Cond.fieldLink RX0 31 "ExamGarden" "hopes" "[I", Cond.methodLink RX0 269 Lib.Math.max.name, Cond.static Lib.Math.max.name, Cond.initialized "java/lang/Math", Cond.code Lib.Math.max.name Lib.Math.max.code 2 (some .int), Cond.fieldLink RX0 22 "ExamGarden" "weights" "[I", Cond.methodLink RX0 163 yX0_pathFrom, Cond.instanceMethod yX0_pathFrom, Cond.selects RX0 yX0_pathFrom yX0_pathFrom, Cond.code yX0_pathFrom cX0_pathFrom 3 (some .int), Cond.fieldLink RX0 19 "ExamGarden" "rights" "[I", Cond.fieldLink RX0 16 "ExamGarden" "lefts" "[I", Cond.methodLink RX0 100 yX0_at, Cond.static yX0_at, Cond.code yX0_at cX0_at 2 (some .int)]
def wsL_planLeadsTo : List Cond := .codeWith yL_planLeadsTo cL_planLeadsTo 4 (some .int) [(0, 9, 12, 21)] :: ((wsL_planLeadsTo_r1 ++ wsL_planLeadsTo_r2) ++ wsX00 ++ (vx_atS RX0 254 "java/lang/IndexOutOfBoundsException" ["java/lang/RuntimeException", "java/lang/Exception"]).filter goodWord)
def wsL_hindsight_r1 : List Cond := [Cond.classLink RL 21 "java/lang/IndexOutOfBoundsException", Cond.methodLink RL 90 yX0_hindsight, Cond.instanceMethod yX0_hindsight, Cond.selects RX0 yX0_hindsight yX0_hindsight, Cond.initialized RX0, Cond.code yX0_hindsight cX0_hindsight 2 (some .int), Cond.fieldLink RX0 34 "ExamGarden" "hindsights" "[I", Cond.methodLink RX0 124 yX0_requireFork, Cond.instanceMethod yX0_requireFork, Cond.selects RX0 yX0_requireFork yX0_requireFork, Cond.code yX0_requireFork cX0_requireFork 2 none, Cond.classLink RX0 250 "java/lang/IndexOutOfBoundsException", Cond.initialized "java/lang/IndexOutOfBoundsException", Cond.methodLink RX0 84 yX0_requirePlace, Cond.instanceMethod yX0_requirePlace, Cond.selects RX0 yX0_requirePlace yX0_requirePlace, Cond.code yX0_requirePlace cX0_requirePlace 2 none, Cond.fieldLink RX0 60 "ExamGarden" "placeCount" "I", Cond.methodLink RX0 135 yX0_holdsExam, Cond.instanceMethod yX0_holdsExam, Cond.selects RX0 yX0_holdsExam yX0_holdsExam, Cond.code yX0_holdsExam cX0_holdsExam 2 (some .boolean), Cond.fieldLink RX0 64 "ExamGarden" "examBits" "J", Cond.methodLink RX0 68 yX0_bitOf]
def wsL_hindsight_r2 : List Cond := [Cond.static yX0_bitOf, Cond.code yX0_bitOf cX0_bitOf 1 (some .long), Cond.methodLink RX0 100 yX0_at, Cond.static yX0_at, Cond.code yX0_at cX0_at 2 (some .int)]
def wsL_hindsight : List Cond := .codeWith yL_hindsight cL_hindsight 4 (some .int) [(0, 9, 12, 21)] :: ((wsL_hindsight_r1 ++ wsL_hindsight_r2) ++ wsX00 ++ (vx_atS RX0 254 "java/lang/IndexOutOfBoundsException" ["java/lang/RuntimeException", "java/lang/Exception"]).filter goodWord)
def wsL_regretOf_r1 : List Cond := [Cond.classLink RL 21 "java/lang/IndexOutOfBoundsException", Cond.classLink RL 15 "java/lang/IllegalStateException", Cond.methodLink RL 93 yX0_regretOf, Cond.instanceMethod yX0_regretOf, Cond.selects RX0 yX0_regretOf yX0_regretOf, Cond.initialized RX0, Cond.code yX0_regretOf cX0_regretOf 2 (some .int), Cond.methodLink RX0 132 yX0_requireStudent, Cond.instanceMethod yX0_requireStudent, Cond.selects RX0 yX0_requireStudent yX0_requireStudent, Cond.code yX0_requireStudent cX0_requireStudent 2 none, Cond.classLink RX0 250 "java/lang/IndexOutOfBoundsException", Cond.initialized "java/lang/IndexOutOfBoundsException", Cond.fieldLink RX0 127 "ExamGarden" "studentCount" "I", Cond.methodLink RX0 170 yX0_requireGraded, Cond.instanceMethod yX0_requireGraded, Cond.selects RX0 yX0_requireGraded yX0_requireGraded, Cond.code yX0_requireGraded cX0_requireGraded 2 none, Cond.classLink RX0 110 "java/lang/IllegalStateException", Cond.initialized "java/lang/IllegalStateException", Cond.fieldLink RX0 41 "ExamGarden" "standing" "[I", Cond.methodLink RX0 100 yX0_at, Cond.static yX0_at, Cond.code yX0_at cX0_at 2 (some .int)]
def wsL_regretOf_r2 : List Cond := [Cond.methodLink RX0 106 yX0_hasGrade, Cond.instanceMethod yX0_hasGrade, Cond.selects RX0 yX0_hasGrade yX0_hasGrade, Cond.code yX0_hasGrade cX0_hasGrade 2 (some .boolean), Cond.fieldLink RX0 25 "ExamGarden" "grades" "[I", Cond.methodLink RX0 173 yX0_regretOfAll, Cond.instanceMethod yX0_regretOfAll, Cond.selects RX0 yX0_regretOfAll yX0_regretOfAll, Cond.code yX0_regretOfAll cX0_regretOfAll 5 (some .int), Cond.fieldLink RX0 44 "ExamGarden" "passedCounts" "[I", Cond.methodLink RX0 176 yX0_regretOfStep, Cond.instanceMethod yX0_regretOfStep, Cond.selects RX0 yX0_regretOfStep yX0_regretOfStep, Cond.code yX0_regretOfStep cX0_regretOfStep 5 (some .int), Cond.fieldLink RX0 34 "ExamGarden" "hindsights" "[I", Cond.methodLink RX0 269 Lib.Math.max.name, Cond.static Lib.Math.max.name, Cond.initialized "java/lang/Math", Cond.code Lib.Math.max.name Lib.Math.max.code 2 (some .int), Cond.fieldLink RX0 22 "ExamGarden" "weights" "[I", Cond.methodLink RX0 146 yX0_passedFork, Cond.instanceMethod yX0_passedFork, Cond.selects RX0 yX0_passedFork yX0_passedFork, Cond.code yX0_passedFork cX0_passedFork 3 (some .int)]
def wsL_regretOf_r3 : List Cond := [Cond.fieldLink RX0 47 "ExamGarden" "passedForks" "[I"]
def wsL_regretOf : List Cond := .codeWith yL_regretOf cL_regretOf 4 (some .int) [(0, 9, 12, 21), (0, 9, 15, 15)] :: ((wsL_regretOf_r1 ++ (wsL_regretOf_r2 ++ wsL_regretOf_r3)) ++ wsX00 ++ (vx_atS RX0 254 "java/lang/IndexOutOfBoundsException" ["java/lang/RuntimeException", "java/lang/Exception"]).filter goodWord ++ (vx_atS RX0 114 "java/lang/IllegalStateException" ["java/lang/RuntimeException", "java/lang/Exception"]).filter goodWord)
def wsL_worstFork_r1 : List Cond := [Cond.classLink RL 21 "java/lang/IndexOutOfBoundsException", Cond.classLink RL 15 "java/lang/IllegalStateException", Cond.methodLink RL 96 yX0_worstFork, Cond.instanceMethod yX0_worstFork, Cond.selects RX0 yX0_worstFork yX0_worstFork, Cond.initialized RX0, Cond.code yX0_worstFork cX0_worstFork 7 (some .int), Cond.fieldLink RX0 44 "ExamGarden" "passedCounts" "[I", Cond.methodLink RX0 132 yX0_requireStudent, Cond.instanceMethod yX0_requireStudent, Cond.selects RX0 yX0_requireStudent yX0_requireStudent, Cond.code yX0_requireStudent cX0_requireStudent 2 none, Cond.classLink RX0 250 "java/lang/IndexOutOfBoundsException", Cond.initialized "java/lang/IndexOutOfBoundsException", Cond.fieldLink RX0 127 "ExamGarden" "studentCount" "I", Cond.methodLink RX0 170 yX0_requireGraded, Cond.instanceMethod yX0_requireGraded, Cond.selects RX0 yX0_requireGraded yX0_requireGraded, Cond.code yX0_requireGraded cX0_requireGraded 2 none, Cond.classLink RX0 110 "java/lang/IllegalStateException", Cond.initialized "java/lang/IllegalStateException", Cond.fieldLink RX0 41 "ExamGarden" "standing" "[I", Cond.methodLink RX0 100 yX0_at, Cond.static yX0_at]
def wsL_worstFork_r2 : List Cond := [Cond.code yX0_at cX0_at 2 (some .int), Cond.methodLink RX0 106 yX0_hasGrade, Cond.instanceMethod yX0_hasGrade, Cond.selects RX0 yX0_hasGrade yX0_hasGrade, Cond.code yX0_hasGrade cX0_hasGrade 2 (some .boolean), Cond.fieldLink RX0 25 "ExamGarden" "grades" "[I", Cond.methodLink RX0 176 yX0_regretOfStep, Cond.instanceMethod yX0_regretOfStep, Cond.selects RX0 yX0_regretOfStep yX0_regretOfStep, Cond.code yX0_regretOfStep cX0_regretOfStep 5 (some .int), Cond.fieldLink RX0 34 "ExamGarden" "hindsights" "[I", Cond.methodLink RX0 269 Lib.Math.max.name, Cond.static Lib.Math.max.name, Cond.initialized "java/lang/Math", Cond.code Lib.Math.max.name Lib.Math.max.code 2 (some .int), Cond.fieldLink RX0 22 "ExamGarden" "weights" "[I", Cond.methodLink RX0 146 yX0_passedFork, Cond.instanceMethod yX0_passedFork, Cond.selects RX0 yX0_passedFork yX0_passedFork, Cond.code yX0_passedFork cX0_passedFork 3 (some .int), Cond.fieldLink RX0 47 "ExamGarden" "passedForks" "[I"]
def wsL_worstFork : List Cond := .codeWith yL_worstFork cL_worstFork 4 (some .int) [(0, 9, 12, 21), (0, 9, 15, 15)] :: ((wsL_worstFork_r1 ++ wsL_worstFork_r2) ++ wsX00 ++ (vx_atS RX0 254 "java/lang/IndexOutOfBoundsException" ["java/lang/RuntimeException", "java/lang/Exception"]).filter goodWord ++ (vx_atS RX0 114 "java/lang/IllegalStateException" ["java/lang/RuntimeException", "java/lang/Exception"]).filter goodWord)
def wsL_law0_r1 : List Cond := [Cond.classLink RL 8 RX0, Cond.instantiable RX0 18, Cond.initialized RX0, Cond.classLink RL 100 RX1, Cond.instantiable RX1 13, Cond.initialized RX1, Cond.arrayClass .long, Cond.methodLink RL 99 yX0_init, Cond.instanceMethod yX0_init, Cond.code yX0_init cX0_init 1 none, Cond.methodLink RX0 1 objectInit, Cond.instanceMethod objectInit, Cond.code objectInit ⟨#[0xb1]⟩ 1 none, Cond.arrayClass .int, Cond.fieldLink RX0 9 "ExamGarden" "lowestGrades" "[I", Cond.fieldLink RX0 13 "ExamGarden" "highestGrades" "[I", Cond.fieldLink RX0 16 "ExamGarden" "lefts" "[I", Cond.fieldLink RX0 19 "ExamGarden" "rights" "[I", Cond.fieldLink RX0 22 "ExamGarden" "weights" "[I", Cond.fieldLink RX0 25 "ExamGarden" "grades" "[I", Cond.fieldLink RX0 28 "ExamGarden" "sureGrades" "[I", Cond.fieldLink RX0 31 "ExamGarden" "hopes" "[I", Cond.fieldLink RX0 34 "ExamGarden" "hindsights" "[I", Cond.fieldLink RX0 37 "ExamGarden" "reachedBits" "[J"]
def wsL_law0_r2 : List Cond := [Cond.fieldLink RX0 41 "ExamGarden" "standing" "[I", Cond.fieldLink RX0 44 "ExamGarden" "passedCounts" "[I", Cond.fieldLink RX0 47 "ExamGarden" "passedForks" "[I", Cond.methodLink RL 102 yX1_init, Cond.instanceMethod yX1_init, Cond.code yX1_init cX1_init 1 none, Cond.methodLink RX1 1 objectInit, Cond.arrayClass .boolean, Cond.fieldLink RX1 9 "ExamGardenModel" "forks" "[Z", Cond.fieldLink RX1 13 "ExamGardenModel" "one" "[I", Cond.fieldLink RX1 17 "ExamGardenModel" "other" "[I", Cond.fieldLink RX1 20 "ExamGardenModel" "third" "[I", Cond.fieldLink RX1 23 "ExamGardenModel" "reach" "[J", Cond.fieldLink RX1 27 "ExamGardenModel" "sure" "[I", Cond.fieldLink RX1 30 "ExamGardenModel" "hopes" "[I", Cond.fieldLink RX1 33 "ExamGardenModel" "stands" "[I", Cond.fieldLink RX1 36 "ExamGardenModel" "passed" "[I", Cond.fieldLink RX1 39 "ExamGardenModel" "ways" "[I", Cond.methodLink RL 103 yL_addExam, Cond.static yL_addExam, Cond.initialized RL, Cond.codeWith yL_addExam cL_addExam 5 (some .int) [(0, 10, 13, 13), (0, 10, 17, 15)], Cond.classLink RL 13 "java/lang/IllegalArgumentException", Cond.classLink RL 15 "java/lang/IllegalStateException"]
def wsL_law0_r3 : List Cond := [Cond.methodLink RL 7 yX0_addExam, Cond.instanceMethod yX0_addExam, Cond.selects RX0 yX0_addExam yX0_addExam, Cond.code yX0_addExam cX0_addExam 4 (some .int), Cond.classLink RX0 50 "java/lang/IllegalArgumentException", Cond.initialized "java/lang/IllegalArgumentException", Cond.fieldLink RX0 60 "ExamGarden" "placeCount" "I", Cond.fieldLink RX0 64 "ExamGarden" "examBits" "J", Cond.methodLink RX0 57 yX0_requireRoom, Cond.instanceMethod yX0_requireRoom, Cond.selects RX0 yX0_requireRoom yX0_requireRoom, Cond.code yX0_requireRoom cX0_requireRoom 1 none, Cond.classLink RX0 110 "java/lang/IllegalStateException", Cond.initialized "java/lang/IllegalStateException", Cond.methodLink RX0 68 yX0_bitOf, Cond.static yX0_bitOf, Cond.code yX0_bitOf cX0_bitOf 1 (some .long), Cond.methodLink RX0 72 yX0_put, Cond.static yX0_put, Cond.code yX0_put cX0_put 3 none, Cond.methodLink RX0 76 yX0_putBits, Cond.static yX0_putBits, Cond.code yX0_putBits cX0_putBits 4 none, Cond.methodLink RX0 80 yX0_settleExam]
def wsL_law0_r4 : List Cond := [Cond.instanceMethod yX0_settleExam, Cond.selects RX0 yX0_settleExam yX0_settleExam, Cond.code yX0_settleExam cX0_settleExam 4 none, Cond.methodLink RX0 106 yX0_hasGrade, Cond.instanceMethod yX0_hasGrade, Cond.selects RX0 yX0_hasGrade yX0_hasGrade, Cond.code yX0_hasGrade cX0_hasGrade 2 (some .boolean), Cond.methodLink RX0 100 yX0_at, Cond.static yX0_at, Cond.code yX0_at cX0_at 2 (some .int), Cond.methodLink RL 108 yX1_addExam, Cond.instanceMethod yX1_addExam, Cond.selects RX1 yX1_addExam yX1_addExam, Cond.code yX1_addExam cX1_addExam 3 (some .int), Cond.fieldLink RX1 42 "ExamGardenModel" "thrown" "I", Cond.fieldLink RX1 46 "ExamGardenModel" "places" "I", Cond.methodLink RX1 96 yX1_no, Cond.instanceMethod yX1_no, Cond.selects RX1 yX1_no yX1_no, Cond.code yX1_no cX1_no 2 (some .int), Cond.methodLink RL 109 yX1_thrown, Cond.instanceMethod yX1_thrown, Cond.selects RX1 yX1_thrown yX1_thrown, Cond.code yX1_thrown cX1_thrown 1 (some .int)]
def wsL_law0_r5 : List Cond := [Cond.methodLink RL 113 yL_addFork, Cond.static yL_addFork, Cond.codeWith yL_addFork cL_addFork 6 (some .int) [(0, 12, 15, 21), (0, 12, 19, 13), (0, 12, 23, 15)], Cond.classLink RL 21 "java/lang/IndexOutOfBoundsException", Cond.methodLink RL 17 yX0_addFork, Cond.instanceMethod yX0_addFork, Cond.selects RX0 yX0_addFork yX0_addFork, Cond.code yX0_addFork cX0_addFork 5 (some .int), Cond.methodLink RX0 84 yX0_requirePlace, Cond.instanceMethod yX0_requirePlace, Cond.selects RX0 yX0_requirePlace yX0_requirePlace, Cond.code yX0_requirePlace cX0_requirePlace 2 none, Cond.classLink RX0 250 "java/lang/IndexOutOfBoundsException", Cond.initialized "java/lang/IndexOutOfBoundsException", Cond.methodLink RX0 87 yX0_requireWeight, Cond.static yX0_requireWeight, Cond.code yX0_requireWeight cX0_requireWeight 1 none, Cond.methodLink RX0 90 yX0_bitsAt, Cond.static yX0_bitsAt, Cond.code yX0_bitsAt cX0_bitsAt 2 (some .long), Cond.methodLink RX0 94 yX0_settleFork, Cond.instanceMethod yX0_settleFork, Cond.selects RX0 yX0_settleFork yX0_settleFork, Cond.code yX0_settleFork cX0_settleFork 2 none]
def wsL_law0_r6 : List Cond := [Cond.methodLink RX0 265 yX0_settleGreater, Cond.instanceMethod yX0_settleGreater, Cond.selects RX0 yX0_settleGreater yX0_settleGreater, Cond.code yX0_settleGreater cX0_settleGreater 3 none, Cond.methodLink RX0 269 Lib.Math.max.name, Cond.static Lib.Math.max.name, Cond.initialized "java/lang/Math", Cond.code Lib.Math.max.name Lib.Math.max.code 2 (some .int), Cond.methodLink RL 116 yX1_addFork, Cond.instanceMethod yX1_addFork, Cond.selects RX1 yX1_addFork yX1_addFork, Cond.code yX1_addFork cX1_addFork 4 (some .int), Cond.methodLink RX1 53 yX1_isPlace, Cond.instanceMethod yX1_isPlace, Cond.selects RX1 yX1_isPlace yX1_isPlace, Cond.code yX1_isPlace cX1_isPlace 2 (some .boolean), Cond.methodLink RX1 49 yX1_isIn, Cond.static yX1_isIn, Cond.code yX1_isIn cX1_isIn 3 (some .boolean), Cond.methodLink RL 117 yL_grade, Cond.static yL_grade, Cond.codeWith yL_grade cL_grade 5 (some .int) [(0, 10, 13, 21), (0, 10, 17, 13), (0, 10, 21, 15)], Cond.methodLink RL 23 yX0_grade, Cond.instanceMethod yX0_grade]
def wsL_law0_r7 : List Cond := [Cond.selects RX0 yX0_grade yX0_grade, Cond.code yX0_grade cX0_grade 3 (some .int), Cond.fieldLink RX0 115 "ExamGarden" "gradedCount" "I", Cond.fieldLink RX0 118 "ExamGarden" "gradeSum" "I", Cond.methodLink RX0 97 yX0_requireExam, Cond.instanceMethod yX0_requireExam, Cond.selects RX0 yX0_requireExam yX0_requireExam, Cond.code yX0_requireExam cX0_requireExam 2 none, Cond.methodLink RX0 135 yX0_holdsExam, Cond.instanceMethod yX0_holdsExam, Cond.selects RX0 yX0_holdsExam yX0_holdsExam, Cond.code yX0_holdsExam cX0_holdsExam 2 (some .boolean), Cond.methodLink RX0 121 yX0_settleForksAfter, Cond.instanceMethod yX0_settleForksAfter, Cond.selects RX0 yX0_settleForksAfter yX0_settleForksAfter, Cond.code yX0_settleForksAfter cX0_settleForksAfter 3 none, Cond.methodLink RL 119 yX1_grade, Cond.instanceMethod yX1_grade, Cond.selects RX1 yX1_grade yX1_grade, Cond.code yX1_grade cX1_grade 3 (some .int), Cond.methodLink RX1 99 yX1_isExamAt, Cond.instanceMethod yX1_isExamAt, Cond.selects RX1 yX1_isExamAt yX1_isExamAt, Cond.code yX1_isExamAt cX1_isExamAt 2 (some .boolean)]
def wsL_law0_r8 : List Cond := [Cond.methodLink RX1 102 yX1_gradedNow, Cond.instanceMethod yX1_gradedNow, Cond.selects RX1 yX1_gradedNow yX1_gradedNow, Cond.code yX1_gradedNow cX1_gradedNow 3 (some .int), Cond.methodLink RL 120 yL_weigh, Cond.static yL_weigh, Cond.codeWith yL_weigh cL_weigh 5 (some .int) [(0, 10, 13, 21), (0, 10, 17, 13)], Cond.methodLink RL 26 yX0_weigh, Cond.instanceMethod yX0_weigh, Cond.selects RX0 yX0_weigh yX0_weigh, Cond.code yX0_weigh cX0_weigh 4 (some .int), Cond.methodLink RX0 124 yX0_requireFork, Cond.instanceMethod yX0_requireFork, Cond.selects RX0 yX0_requireFork yX0_requireFork, Cond.code yX0_requireFork cX0_requireFork 2 none, Cond.methodLink RL 122 yX1_weigh, Cond.instanceMethod yX1_weigh, Cond.selects RX1 yX1_weigh yX1_weigh, Cond.code yX1_weigh cX1_weigh 4 (some .int), Cond.methodLink RX1 106 yX1_isForkAt, Cond.instanceMethod yX1_isForkAt, Cond.selects RX1 yX1_isForkAt yX1_isForkAt, Cond.code yX1_isForkAt cX1_isForkAt 2 (some .boolean), Cond.methodLink RL 123 yL_enroll]
def wsL_law0_r9 : List Cond := [Cond.static yL_enroll, Cond.codeWith yL_enroll cL_enroll 4 (some .int) [(0, 9, 12, 21), (0, 9, 15, 15)], Cond.methodLink RL 29 yX0_enroll, Cond.instanceMethod yX0_enroll, Cond.selects RX0 yX0_enroll yX0_enroll, Cond.code yX0_enroll cX0_enroll 3 (some .int), Cond.fieldLink RX0 127 "ExamGarden" "studentCount" "I", Cond.methodLink RL 126 yX1_enroll, Cond.instanceMethod yX1_enroll, Cond.selects RX1 yX1_enroll yX1_enroll, Cond.code yX1_enroll cX1_enroll 2 (some .int), Cond.fieldLink RX1 57 "ExamGardenModel" "students" "I", Cond.methodLink RL 127 yL_turn, Cond.static yL_turn, Cond.codeWith yL_turn cL_turn 5 (some .int) [(0, 10, 13, 21), (0, 10, 17, 15)], Cond.methodLink RL 33 yX0_turn, Cond.instanceMethod yX0_turn, Cond.selects RX0 yX0_turn yX0_turn, Cond.code yX0_turn cX0_turn 3 (some .int), Cond.methodLink RX0 132 yX0_requireStudent, Cond.instanceMethod yX0_requireStudent, Cond.selects RX0 yX0_requireStudent yX0_requireStudent, Cond.code yX0_requireStudent cX0_requireStudent 2 none, Cond.methodLink RX0 140 yX0_walk]
def wsL_law0_r10 : List Cond := [Cond.instanceMethod yX0_walk, Cond.selects RX0 yX0_walk yX0_walk, Cond.code yX0_walk cX0_walk 5 none, Cond.methodLink RX0 163 yX0_pathFrom, Cond.instanceMethod yX0_pathFrom, Cond.selects RX0 yX0_pathFrom yX0_pathFrom, Cond.code yX0_pathFrom cX0_pathFrom 3 (some .int), Cond.methodLink RL 130 yX1_turn, Cond.instanceMethod yX1_turn, Cond.selects RX1 yX1_turn yX1_turn, Cond.code yX1_turn cX1_turn 4 (some .int), Cond.methodLink RX1 109 yX1_isStudent, Cond.instanceMethod yX1_isStudent, Cond.selects RX1 yX1_isStudent yX1_isStudent, Cond.code yX1_isStudent cX1_isStudent 2 (some .boolean), Cond.methodLink RX1 112 yX1_go, Cond.instanceMethod yX1_go, Cond.selects RX1 yX1_go yX1_go, Cond.code yX1_go cX1_go 3 none, Cond.methodLink RL 131 yL_goBack, Cond.static yL_goBack, Cond.codeWith yL_goBack cL_goBack 4 (some .int) [(0, 9, 12, 21), (0, 9, 15, 15)], Cond.methodLink RL 37 yX0_goBack, Cond.instanceMethod yX0_goBack]
def wsL_law0_r11 : List Cond := [Cond.selects RX0 yX0_goBack yX0_goBack, Cond.code yX0_goBack cX0_goBack 4 (some .int), Cond.methodLink RX0 146 yX0_passedFork, Cond.instanceMethod yX0_passedFork, Cond.selects RX0 yX0_passedFork yX0_passedFork, Cond.code yX0_passedFork cX0_passedFork 3 (some .int), Cond.methodLink RL 133 yX1_goBack, Cond.instanceMethod yX1_goBack, Cond.selects RX1 yX1_goBack yX1_goBack, Cond.code yX1_goBack cX1_goBack 2 (some .int), Cond.methodLink RL 134 yL_follow, Cond.static yL_follow, Cond.codeWith yL_follow cL_follow 4 (some .int) [(0, 9, 12, 21)], Cond.methodLink RL 40 yX0_follow, Cond.instanceMethod yX0_follow, Cond.selects RX0 yX0_follow yX0_follow, Cond.code yX0_follow cX0_follow 3 (some .int), Cond.methodLink RX0 150 yX0_plansRight, Cond.instanceMethod yX0_plansRight, Cond.selects RX0 yX0_plansRight yX0_plansRight, Cond.code yX0_plansRight cX0_plansRight 2 (some .boolean), Cond.methodLink RX0 159 yX0_riskOfPath, Cond.instanceMethod yX0_riskOfPath, Cond.selects RX0 yX0_riskOfPath yX0_riskOfPath]
def wsL_law0_r12 : List Cond := [Cond.code yX0_riskOfPath cX0_riskOfPath 5 (some .int), Cond.methodLink RL 136 yX1_follow, Cond.instanceMethod yX1_follow, Cond.selects RX1 yX1_follow yX1_follow, Cond.code yX1_follow cX1_follow 3 (some .int), Cond.methodLink RX1 116 yX1_table, Cond.instanceMethod yX1_table, Cond.selects RX1 yX1_table yX1_table, Cond.code yX1_table cX1_table 3 none, Cond.methodLink RX1 60 Lib.Math.max.name, Cond.methodLink RX1 73 yX1_planned, Cond.instanceMethod yX1_planned, Cond.selects RX1 yX1_planned yX1_planned, Cond.code yX1_planned cX1_planned 2 (some .int), Cond.methodLink RX1 70 yX1_turnsRight, Cond.instanceMethod yX1_turnsRight, Cond.selects RX1 yX1_turnsRight yX1_turnsRight, Cond.code yX1_turnsRight cX1_turnsRight 2 (some .boolean), Cond.methodLink RX1 66 yX1_riskOf, Cond.instanceMethod yX1_riskOf, Cond.selects RX1 yX1_riskOf yX1_riskOf, Cond.code yX1_riskOf cX1_riskOf 5 (some .int), Cond.methodLink RL 137 yX0_places, Cond.instanceMethod yX0_places]
def wsL_law0_r13 : List Cond := [Cond.selects RX0 yX0_places yX0_places, Cond.code yX0_places cX0_places 1 (some .int), Cond.methodLink RL 140 yX1_places, Cond.instanceMethod yX1_places, Cond.selects RX1 yX1_places yX1_places, Cond.code yX1_places cX1_places 1 (some .int), Cond.methodLink RX1 119 yX1_ok, Cond.instanceMethod yX1_ok, Cond.selects RX1 yX1_ok yX1_ok, Cond.code yX1_ok cX1_ok 2 (some .int), Cond.methodLink RL 141 yX0_exams, Cond.instanceMethod yX0_exams, Cond.selects RX0 yX0_exams yX0_exams, Cond.code yX0_exams cX0_exams 1 (some .int), Cond.methodLink RX0 153 yJ13_bitCount_95d88, Cond.static yJ13_bitCount_95d88, Cond.initialized RJ13, Cond.code yJ13_bitCount_95d88 cJ13_bitCount_95d88 2 (some .int), Cond.constantLong RJ13 314 (6148914691236517205), Cond.constantLong RJ13 316 (3689348814741910323), Cond.constantLong RJ13 318 (1085102592571150095), Cond.methodLink RL 144 yX1_exams, Cond.instanceMethod yX1_exams, Cond.selects RX1 yX1_exams yX1_exams]
def wsL_law0_r14 : List Cond := [Cond.code yX1_exams cX1_exams 1 (some .int), Cond.methodLink RX1 122 yX1_examsNow, Cond.instanceMethod yX1_examsNow, Cond.selects RX1 yX1_examsNow yX1_examsNow, Cond.code yX1_examsNow cX1_examsNow 3 (some .int), Cond.methodLink RL 145 yX0_graded, Cond.instanceMethod yX0_graded, Cond.selects RX0 yX0_graded yX0_graded, Cond.code yX0_graded cX0_graded 1 (some .int), Cond.methodLink RL 148 yX1_graded, Cond.instanceMethod yX1_graded, Cond.selects RX1 yX1_graded yX1_graded, Cond.code yX1_graded cX1_graded 1 (some .int), Cond.methodLink RL 149 yX0_students, Cond.instanceMethod yX0_students, Cond.selects RX0 yX0_students yX0_students, Cond.code yX0_students cX0_students 1 (some .int), Cond.methodLink RL 152 yX1_students, Cond.instanceMethod yX1_students, Cond.selects RX1 yX1_students yX1_students, Cond.code yX1_students cX1_students 1 (some .int), Cond.methodLink RL 153 yX0_atExams, Cond.instanceMethod yX0_atExams, Cond.selects RX0 yX0_atExams yX0_atExams]
def wsL_law0_r15 : List Cond := [Cond.code yX0_atExams cX0_atExams 3 (some .int), Cond.methodLink RL 156 yX1_atExams, Cond.instanceMethod yX1_atExams, Cond.selects RX1 yX1_atExams yX1_atExams, Cond.code yX1_atExams cX1_atExams 1 (some .int), Cond.methodLink RX1 125 yX1_atEnds, Cond.instanceMethod yX1_atEnds, Cond.selects RX1 yX1_atEnds yX1_atEnds, Cond.code yX1_atEnds cX1_atEnds 3 (some .int), Cond.methodLink RL 157 yL_isExam, Cond.static yL_isExam, Cond.codeWith yL_isExam cL_isExam 4 (some .int) [(0, 16, 19, 21)], Cond.methodLink RL 43 yX0_isExam, Cond.instanceMethod yX0_isExam, Cond.selects RX0 yX0_isExam yX0_isExam, Cond.code yX0_isExam cX0_isExam 2 (some .boolean), Cond.methodLink RL 159 yX1_isExam, Cond.instanceMethod yX1_isExam, Cond.selects RX1 yX1_isExam yX1_isExam, Cond.code yX1_isExam cX1_isExam 2 (some .boolean), Cond.methodLink RX1 128 yX1_isNot, Cond.instanceMethod yX1_isNot, Cond.selects RX1 yX1_isNot yX1_isNot, Cond.code yX1_isNot cX1_isNot 2 (some .boolean)]
def wsL_law0_r16 : List Cond := [Cond.methodLink RL 160 yL_isGraded, Cond.static yL_isGraded, Cond.codeWith yL_isGraded cL_isGraded 4 (some .int) [(0, 16, 19, 21)], Cond.methodLink RL 47 yX0_isGraded, Cond.instanceMethod yX0_isGraded, Cond.selects RX0 yX0_isGraded yX0_isGraded, Cond.code yX0_isGraded cX0_isGraded 2 (some .boolean), Cond.methodLink RL 162 yX1_isGraded, Cond.instanceMethod yX1_isGraded, Cond.selects RX1 yX1_isGraded yX1_isGraded, Cond.code yX1_isGraded cX1_isGraded 2 (some .boolean), Cond.methodLink RL 163 yL_gradeOf, Cond.static yL_gradeOf, Cond.codeWith yL_gradeOf cL_gradeOf 4 (some .int) [(0, 9, 12, 21)], Cond.methodLink RL 50 yX0_gradeOf, Cond.instanceMethod yX0_gradeOf, Cond.selects RX0 yX0_gradeOf yX0_gradeOf, Cond.code yX0_gradeOf cX0_gradeOf 2 (some .int), Cond.methodLink RL 165 yX1_gradeOf, Cond.instanceMethod yX1_gradeOf, Cond.selects RX1 yX1_gradeOf yX1_gradeOf, Cond.code yX1_gradeOf cX1_gradeOf 2 (some .int), Cond.methodLink RL 166 yL_leftOf, Cond.static yL_leftOf]
def wsL_law0_r17 : List Cond := [Cond.codeWith yL_leftOf cL_leftOf 4 (some .int) [(0, 9, 12, 21)], Cond.methodLink RL 53 yX0_leftOf, Cond.instanceMethod yX0_leftOf, Cond.selects RX0 yX0_leftOf yX0_leftOf, Cond.code yX0_leftOf cX0_leftOf 2 (some .int), Cond.methodLink RL 168 yX1_leftOf, Cond.instanceMethod yX1_leftOf, Cond.selects RX1 yX1_leftOf yX1_leftOf, Cond.code yX1_leftOf cX1_leftOf 2 (some .int), Cond.methodLink RX1 131 yX1_ofFork, Cond.instanceMethod yX1_ofFork, Cond.selects RX1 yX1_ofFork yX1_ofFork, Cond.code yX1_ofFork cX1_ofFork 3 (some .int), Cond.methodLink RL 169 yL_rightOf, Cond.static yL_rightOf, Cond.codeWith yL_rightOf cL_rightOf 4 (some .int) [(0, 9, 12, 21)], Cond.methodLink RL 56 yX0_rightOf, Cond.instanceMethod yX0_rightOf, Cond.selects RX0 yX0_rightOf yX0_rightOf, Cond.code yX0_rightOf cX0_rightOf 2 (some .int), Cond.methodLink RL 171 yX1_rightOf, Cond.instanceMethod yX1_rightOf, Cond.selects RX1 yX1_rightOf yX1_rightOf, Cond.code yX1_rightOf cX1_rightOf 2 (some .int)]
def wsL_law0_r18 : List Cond := [Cond.methodLink RL 172 yL_weightOf, Cond.static yL_weightOf, Cond.codeWith yL_weightOf cL_weightOf 4 (some .int) [(0, 9, 12, 21)], Cond.methodLink RL 59 yX0_weightOf, Cond.instanceMethod yX0_weightOf, Cond.selects RX0 yX0_weightOf yX0_weightOf, Cond.code yX0_weightOf cX0_weightOf 2 (some .int), Cond.methodLink RL 174 yX1_weightOf, Cond.instanceMethod yX1_weightOf, Cond.selects RX1 yX1_weightOf yX1_weightOf, Cond.code yX1_weightOf cX1_weightOf 2 (some .int), Cond.methodLink RL 175 yL_placeOf, Cond.static yL_placeOf, Cond.codeWith yL_placeOf cL_placeOf 4 (some .int) [(0, 9, 12, 21)], Cond.methodLink RL 62 yX0_placeOf, Cond.instanceMethod yX0_placeOf, Cond.selects RX0 yX0_placeOf yX0_placeOf, Cond.code yX0_placeOf cX0_placeOf 2 (some .int), Cond.methodLink RL 177 yX1_placeOf, Cond.instanceMethod yX1_placeOf, Cond.selects RX1 yX1_placeOf yX1_placeOf, Cond.code yX1_placeOf cX1_placeOf 2 (some .int), Cond.methodLink RX1 135 yX1_ofStudent, Cond.instanceMethod yX1_ofStudent]
def wsL_law0_r19 : List Cond := [Cond.selects RX1 yX1_ofStudent yX1_ofStudent, Cond.code yX1_ofStudent cX1_ofStudent 3 (some .int), Cond.methodLink RL 178 yL_passedBy, Cond.static yL_passedBy, Cond.codeWith yL_passedBy cL_passedBy 4 (some .int) [(0, 9, 12, 21)], Cond.methodLink RL 65 yX0_passedBy, Cond.instanceMethod yX0_passedBy, Cond.selects RX0 yX0_passedBy yX0_passedBy, Cond.code yX0_passedBy cX0_passedBy 2 (some .int), Cond.methodLink RL 180 yX1_passedBy, Cond.instanceMethod yX1_passedBy, Cond.selects RX1 yX1_passedBy yX1_passedBy, Cond.code yX1_passedBy cX1_passedBy 2 (some .int), Cond.methodLink RL 181 yL_sureGrade, Cond.static yL_sureGrade, Cond.codeWith yL_sureGrade cL_sureGrade 4 (some .int) [(0, 9, 12, 21)], Cond.methodLink RL 68 yX0_sureGrade, Cond.instanceMethod yX0_sureGrade, Cond.selects RX0 yX0_sureGrade yX0_sureGrade, Cond.code yX0_sureGrade cX0_sureGrade 2 (some .int), Cond.methodLink RL 183 yX1_sureGrade, Cond.instanceMethod yX1_sureGrade, Cond.selects RX1 yX1_sureGrade yX1_sureGrade, Cond.code yX1_sureGrade cX1_sureGrade 2 (some .int)]
def wsL_law0_r20 : List Cond := [Cond.methodLink RX1 138 yX1_ofPlace, Cond.instanceMethod yX1_ofPlace, Cond.selects RX1 yX1_ofPlace yX1_ofPlace, Cond.code yX1_ofPlace cX1_ofPlace 3 (some .int), Cond.methodLink RL 184 yL_hope, Cond.static yL_hope, Cond.codeWith yL_hope cL_hope 4 (some .int) [(0, 9, 12, 21)], Cond.methodLink RL 71 yX0_hope, Cond.instanceMethod yX0_hope, Cond.selects RX0 yX0_hope yX0_hope, Cond.code yX0_hope cX0_hope 2 (some .int), Cond.methodLink RL 186 yX1_hope, Cond.instanceMethod yX1_hope, Cond.selects RX1 yX1_hope yX1_hope, Cond.code yX1_hope cX1_hope 2 (some .int), Cond.methodLink RL 187 yL_reaches, Cond.static yL_reaches, Cond.codeWith yL_reaches cL_reaches 5 (some .int) [(0, 17, 20, 21)], Cond.methodLink RL 74 yX0_reaches, Cond.instanceMethod yX0_reaches, Cond.selects RX0 yX0_reaches yX0_reaches, Cond.code yX0_reaches cX0_reaches 3 (some .boolean), Cond.methodLink RL 189 yX1_reaches, Cond.instanceMethod yX1_reaches]
def wsL_law0_r21 : List Cond := [Cond.selects RX1 yX1_reaches yX1_reaches, Cond.code yX1_reaches cX1_reaches 3 (some .boolean), Cond.methodLink RX1 77 yX1_has, Cond.instanceMethod yX1_has, Cond.selects RX1 yX1_has yX1_has, Cond.code yX1_has cX1_has 3 (some .boolean), Cond.methodLink RL 190 yL_examsFrom, Cond.static yL_examsFrom, Cond.codeWith yL_examsFrom cL_examsFrom 4 (some .int) [(0, 9, 12, 21)], Cond.methodLink RL 78 yX0_examsFrom, Cond.instanceMethod yX0_examsFrom, Cond.selects RX0 yX0_examsFrom yX0_examsFrom, Cond.code yX0_examsFrom cX0_examsFrom 2 (some .int), Cond.methodLink RL 192 yX1_examsFrom, Cond.instanceMethod yX1_examsFrom, Cond.selects RX1 yX1_examsFrom yX1_examsFrom, Cond.code yX1_examsFrom cX1_examsFrom 2 (some .int), Cond.methodLink RX1 141 yX1_examsOf, Cond.instanceMethod yX1_examsOf, Cond.selects RX1 yX1_examsOf yX1_examsOf, Cond.code yX1_examsOf cX1_examsOf 4 (some .int), Cond.methodLink RL 193 yL_risk, Cond.static yL_risk, Cond.codeWith yL_risk cL_risk 5 (some .int) [(0, 10, 13, 21)]]
def wsL_law0_r22 : List Cond := [Cond.methodLink RL 81 yX0_risk, Cond.instanceMethod yX0_risk, Cond.selects RX0 yX0_risk yX0_risk, Cond.code yX0_risk cX0_risk 3 (some .int), Cond.methodLink RL 195 yX1_risk, Cond.instanceMethod yX1_risk, Cond.selects RX1 yX1_risk yX1_risk, Cond.code yX1_risk cX1_risk 3 (some .int), Cond.methodLink RL 196 yL_planTurnsRight, Cond.static yL_planTurnsRight, Cond.codeWith yL_planTurnsRight cL_planTurnsRight 4 (some .int) [(0, 16, 19, 21)], Cond.methodLink RL 84 yX0_planTurnsRight, Cond.instanceMethod yX0_planTurnsRight, Cond.selects RX0 yX0_planTurnsRight yX0_planTurnsRight, Cond.code yX0_planTurnsRight cX0_planTurnsRight 2 (some .boolean), Cond.methodLink RL 198 yX1_planTurnsRight, Cond.instanceMethod yX1_planTurnsRight, Cond.selects RX1 yX1_planTurnsRight yX1_planTurnsRight, Cond.code yX1_planTurnsRight cX1_planTurnsRight 2 (some .boolean), Cond.methodLink RL 199 yL_planLeadsTo, Cond.static yL_planLeadsTo, Cond.codeWith yL_planLeadsTo cL_planLeadsTo 4 (some .int) [(0, 9, 12, 21)], Cond.methodLink RL 87 yX0_planLeadsTo, Cond.instanceMethod yX0_planLeadsTo]
def wsL_law0_r23 : List Cond := [Cond.selects RX0 yX0_planLeadsTo yX0_planLeadsTo, Cond.code yX0_planLeadsTo cX0_planLeadsTo 4 (some .int), Cond.methodLink RL 201 yX1_planLeadsTo, Cond.instanceMethod yX1_planLeadsTo, Cond.selects RX1 yX1_planLeadsTo yX1_planLeadsTo, Cond.code yX1_planLeadsTo cX1_planLeadsTo 2 (some .int), Cond.methodLink RX1 144 yX1_leads, Cond.instanceMethod yX1_leads, Cond.selects RX1 yX1_leads yX1_leads, Cond.code yX1_leads cX1_leads 3 (some .int), Cond.methodLink RL 202 yX0_riskiestFork, Cond.instanceMethod yX0_riskiestFork, Cond.selects RX0 yX0_riskiestFork yX0_riskiestFork, Cond.code yX0_riskiestFork cX0_riskiestFork 4 (some .int), Cond.methodLink RX0 166 yX0_smallerRisk, Cond.instanceMethod yX0_smallerRisk, Cond.selects RX0 yX0_smallerRisk yX0_smallerRisk, Cond.code yX0_smallerRisk cX0_smallerRisk 2 (some .int), Cond.methodLink RX0 274 Lib.Math.min.name, Cond.static Lib.Math.min.name, Cond.code Lib.Math.min.name Lib.Math.min.code 2 (some .int), Cond.methodLink RL 205 yX1_riskiestFork, Cond.instanceMethod yX1_riskiestFork, Cond.selects RX1 yX1_riskiestFork yX1_riskiestFork]
def wsL_law0_r24 : List Cond := [Cond.code yX1_riskiestFork cX1_riskiestFork 1 (some .int), Cond.methodLink RX1 147 yX1_riskiest, Cond.instanceMethod yX1_riskiest, Cond.selects RX1 yX1_riskiest yX1_riskiest, Cond.code yX1_riskiest cX1_riskiest 5 (some .int), Cond.methodLink RX1 81 Lib.Math.min.name, Cond.methodLink RL 206 yL_hindsight, Cond.static yL_hindsight, Cond.codeWith yL_hindsight cL_hindsight 4 (some .int) [(0, 9, 12, 21)], Cond.methodLink RL 90 yX0_hindsight, Cond.instanceMethod yX0_hindsight, Cond.selects RX0 yX0_hindsight yX0_hindsight, Cond.code yX0_hindsight cX0_hindsight 2 (some .int), Cond.methodLink RL 208 yX1_hindsight, Cond.instanceMethod yX1_hindsight, Cond.selects RX1 yX1_hindsight yX1_hindsight, Cond.code yX1_hindsight cX1_hindsight 2 (some .int), Cond.methodLink RX1 84 yX1_behind, Cond.instanceMethod yX1_behind, Cond.selects RX1 yX1_behind yX1_behind, Cond.code yX1_behind cX1_behind 4 (some .int), Cond.methodLink RL 209 yL_regretOf, Cond.static yL_regretOf, Cond.codeWith yL_regretOf cL_regretOf 4 (some .int) [(0, 9, 12, 21), (0, 9, 15, 15)]]
def wsL_law0_r25 : List Cond := [Cond.methodLink RL 93 yX0_regretOf, Cond.instanceMethod yX0_regretOf, Cond.selects RX0 yX0_regretOf yX0_regretOf, Cond.code yX0_regretOf cX0_regretOf 2 (some .int), Cond.methodLink RX0 170 yX0_requireGraded, Cond.instanceMethod yX0_requireGraded, Cond.selects RX0 yX0_requireGraded yX0_requireGraded, Cond.code yX0_requireGraded cX0_requireGraded 2 none, Cond.methodLink RX0 173 yX0_regretOfAll, Cond.instanceMethod yX0_regretOfAll, Cond.selects RX0 yX0_regretOfAll yX0_regretOfAll, Cond.code yX0_regretOfAll cX0_regretOfAll 5 (some .int), Cond.methodLink RX0 176 yX0_regretOfStep, Cond.instanceMethod yX0_regretOfStep, Cond.selects RX0 yX0_regretOfStep yX0_regretOfStep, Cond.code yX0_regretOfStep cX0_regretOfStep 5 (some .int), Cond.methodLink RL 211 yX1_regretOf, Cond.instanceMethod yX1_regretOf, Cond.selects RX1 yX1_regretOf yX1_regretOf, Cond.code yX1_regretOf cX1_regretOf 2 (some .int), Cond.methodLink RX1 90 yX1_isKnown, Cond.instanceMethod yX1_isKnown, Cond.selects RX1 yX1_isKnown yX1_isKnown, Cond.code yX1_isKnown cX1_isKnown 2 (some .boolean)]
def wsL_law0_r26 : List Cond := [Cond.methodLink RX1 93 yX1_regrets, Cond.instanceMethod yX1_regrets, Cond.selects RX1 yX1_regrets yX1_regrets, Cond.code yX1_regrets cX1_regrets 4 (some .int), Cond.methodLink RX1 87 yX1_regret, Cond.instanceMethod yX1_regret, Cond.selects RX1 yX1_regret yX1_regret, Cond.code yX1_regret cX1_regret 4 (some .int), Cond.methodLink RL 212 yL_worstFork, Cond.static yL_worstFork, Cond.codeWith yL_worstFork cL_worstFork 4 (some .int) [(0, 9, 12, 21), (0, 9, 15, 15)], Cond.methodLink RL 96 yX0_worstFork, Cond.instanceMethod yX0_worstFork, Cond.selects RX0 yX0_worstFork yX0_worstFork, Cond.code yX0_worstFork cX0_worstFork 7 (some .int), Cond.methodLink RL 214 yX1_worstFork, Cond.instanceMethod yX1_worstFork, Cond.selects RX1 yX1_worstFork yX1_worstFork, Cond.code yX1_worstFork cX1_worstFork 2 (some .int), Cond.methodLink RX1 150 yX1_worst, Cond.instanceMethod yX1_worst, Cond.selects RX1 yX1_worst yX1_worst, Cond.code yX1_worst cX1_worst 5 (some .int), Cond.methodLink RL 215 yX0_allRegret]
def wsL_law0_r27 : List Cond := [Cond.instanceMethod yX0_allRegret, Cond.selects RX0 yX0_allRegret yX0_allRegret, Cond.code yX0_allRegret cX0_allRegret 3 (some .int), Cond.methodLink RL 218 yX1_allRegret, Cond.instanceMethod yX1_allRegret, Cond.selects RX1 yX1_allRegret yX1_allRegret, Cond.code yX1_allRegret cX1_allRegret 1 (some .int), Cond.methodLink RX1 153 yX1_allRegrets, Cond.instanceMethod yX1_allRegrets, Cond.selects RX1 yX1_allRegrets yX1_allRegrets, Cond.code yX1_allRegrets cX1_allRegrets 3 (some .int), Cond.methodLink RL 219 yX0_meanGrade, Cond.instanceMethod yX0_meanGrade, Cond.selects RX0 yX0_meanGrade yX0_meanGrade, Cond.code yX0_meanGrade cX0_meanGrade 1 (some .double), Cond.methodLink RL 223 yX1_meanGrade, Cond.instanceMethod yX1_meanGrade, Cond.selects RX1 yX1_meanGrade yX1_meanGrade, Cond.code yX1_meanGrade cX1_meanGrade 3 (some .double), Cond.methodLink RL 224 yX0_digest, Cond.instanceMethod yX0_digest, Cond.selects RX0 yX0_digest yX0_digest, Cond.code yX0_digest cX0_digest 4 (some .long), Cond.constantLong RX0 179 (1039)]
def wsL_law0_r28 : List Cond := [Cond.methodLink RX0 181 yX0_places, Cond.methodLink RX0 185 yX0_mix, Cond.static yX0_mix, Cond.code yX0_mix cX0_mix 3 (some .long), Cond.constantLong RX0 246 (31), Cond.methodLink RX0 189 yX0_exams, Cond.methodLink RX0 192 yX0_graded, Cond.methodLink RX0 195 yX0_students, Cond.methodLink RX0 198 yX0_atExams, Cond.methodLink RX0 201 yX0_riskiestFork, Cond.methodLink RX0 204 yX0_allRegret, Cond.methodLink RX0 207 yX0_mixPlace, Cond.instanceMethod yX0_mixPlace, Cond.selects RX0 yX0_mixPlace yX0_mixPlace, Cond.code yX0_mixPlace cX0_mixPlace 6 (some .long), Cond.methodLink RX0 216 yX0_isExam, Cond.methodLink RX0 219 yX0_sureGrade, Cond.methodLink RX0 222 yX0_hope, Cond.methodLink RX0 225 yX0_examsFrom, Cond.methodLink RX0 228 yX0_planLeadsTo, Cond.methodLink RX0 231 yX0_gradeOf, Cond.methodLink RX0 234 yX0_leftOf, Cond.methodLink RX0 237 yX0_rightOf, Cond.methodLink RX0 240 yX0_weightOf]
def wsL_law0_r29 : List Cond := [Cond.methodLink RX0 243 yX0_hindsight, Cond.methodLink RX0 210 yX0_placeOf, Cond.methodLink RX0 213 yX0_passedBy, Cond.methodLink RL 228 yX1_digest, Cond.instanceMethod yX1_digest, Cond.selects RX1 yX1_digest yX1_digest, Cond.code yX1_digest cX1_digest 10 (some .long), Cond.constantLong RX1 156 (1039), Cond.constantLong RX1 158 (31)]
def wsL_law0 : List Cond := (wsL_law0_r1 ++ (wsL_law0_r2 ++ (wsL_law0_r3 ++ (wsL_law0_r4 ++ (wsL_law0_r5 ++ (wsL_law0_r6 ++ (wsL_law0_r7 ++ (wsL_law0_r8 ++ (wsL_law0_r9 ++ (wsL_law0_r10 ++ (wsL_law0_r11 ++ (wsL_law0_r12 ++ (wsL_law0_r13 ++ (wsL_law0_r14 ++ (wsL_law0_r15 ++ (wsL_law0_r16 ++ (wsL_law0_r17 ++ (wsL_law0_r18 ++ (wsL_law0_r19 ++ (wsL_law0_r20 ++ (wsL_law0_r21 ++ (wsL_law0_r22 ++ (wsL_law0_r23 ++ (wsL_law0_r24 ++ (wsL_law0_r25 ++ (wsL_law0_r26 ++ (wsL_law0_r27 ++ (wsL_law0_r28 ++ wsL_law0_r29)))))))))))))))))))))))))))) ++ wsX00 ++ wsX10 ++ ([] : List Cond)
def wsL_law : List Cond := wsL_law0 ++ (vx_atS RX0 54 "java/lang/IllegalArgumentException" ["java/lang/RuntimeException", "java/lang/Exception"]).filter goodWord ++ (vx_atS RX0 114 "java/lang/IllegalStateException" ["java/lang/RuntimeException", "java/lang/Exception"]).filter goodWord ++ (vx_atS RX0 254 "java/lang/IndexOutOfBoundsException" ["java/lang/RuntimeException", "java/lang/Exception"]).filter goodWord
set_option maxRecDepth 20000 in
theorem wsL_law_in0 : ∀ w ∈ wsL_law0, w ∈ lw_tbl := fun w h => (goodIn_p wsL_law0 [65, 68, 599, 378, 398, 161, 417, 420, 424, 191, 154, 649, 653, 645, 432, 235, 435, 318, 440, 444, 180, 657, 661, 664, 451, 334, 158, 457, 668, 672, 676, 464, 343, 680, 684, 471, 688, 479, 364, 484, 177, 692, 696, 700, 491, 203, 704, 499, 326, 173, 708, 712, 717, 721, 725, 129, 729, 733, 133, 136, 737, 741, 143, 745, 147, 749, 151, 753, 757, 231, 761, 765, 510, 769, 330, 773, 339, 777, 781, 348, 785, 352, 789, 360, 793, 797, 369, 801, 307, 805, 809, 311, 813, 549, 817, 821, 315, 825, 829, 560, 833, 567, 837, 322, 841, 845, 165, 169, 183, 849, 853, 356, 858, 862, 582, 586, 195, 199, 866, 870, 874, 878, 594, 882, 886, 187, 890, 894, 207, 898, 211, 216, 227, 902] (by decide +kernel) (by decide +kernel) w h).1
theorem wsL_law_x0 : ∀ w ∈ (vx_atS RX0 54 "java/lang/IllegalArgumentException" ["java/lang/RuntimeException", "java/lang/Exception"]).filter goodWord, w ∈ lw_tbl := by decide +kernel
theorem wsL_law_x1 : ∀ w ∈ (vx_atS RX0 114 "java/lang/IllegalStateException" ["java/lang/RuntimeException", "java/lang/Exception"]).filter goodWord, w ∈ lw_tbl := by decide +kernel
theorem wsL_law_x2 : ∀ w ∈ (vx_atS RX0 254 "java/lang/IndexOutOfBoundsException" ["java/lang/RuntimeException", "java/lang/Exception"]).filter goodWord, w ∈ lw_tbl := by decide +kernel
theorem wsL_law_in : ∀ w ∈ wsL_law, w ∈ lw_tbl := fun w h => (List.mem_append.mp h).elim (fun h => (List.mem_append.mp h).elim (fun h => (List.mem_append.mp h).elim (fun h => wsL_law_in0 w h) (fun h => wsL_law_x0 w h)) (fun h => wsL_law_x1 w h)) (fun h => wsL_law_x2 w h)
theorem inlX0 : ∀ w ∈ wsX00, w ∈ wsL_law := fun _ h => List.mem_append_left _ (List.mem_append_left _ (List.mem_append_left _ (List.mem_append_left _ (List.mem_append_left _ (List.mem_append_right _ h)))))
theorem inX0 : ∀ w ∈ wsX00, w ∈ lw_tbl := fun w h => wsL_law_in w (inlX0 w h)
theorem inlX1 : ∀ w ∈ wsX10, w ∈ wsL_law := fun _ h => List.mem_append_left _ (List.mem_append_left _ (List.mem_append_left _ (List.mem_append_left _ (List.mem_append_right _ h))))
theorem inX1 : ∀ w ∈ wsX10, w ∈ lw_tbl := fun w h => wsL_law_in w (inlX1 w h)
theorem inJ13 : ∀ w ∈ wsJ130, w ∈ lw_tbl := by decide +kernel
theorem inJ9 : ∀ w ∈ wsJ90, w ∈ lw_tbl := by decide +kernel
theorem inJ0 : ∀ w ∈ wsJ00, w ∈ lw_tbl := by decide +kernel
theorem dX0_init_0 : decode cX0_init 0 = .ok (.aload_n 0, 1) := by decide +kernel
theorem dX0_init_1 : decode cX0_init 1 = .ok (.invokespecial 1, 3) := by decide +kernel
theorem dX0_init_4 : decode cX0_init 4 = .ok (.aload_n 0, 1) := by decide +kernel
theorem dX0_init_5 : decode cX0_init 5 = .ok (.bipush 40, 2) := by decide +kernel
theorem dX0_init_7 : decode cX0_init 7 = .ok (.newarray .int, 2) := by decide +kernel
theorem dX0_init_9 : decode cX0_init 9 = .ok (.putfield 9, 3) := by decide +kernel
theorem dX0_init_12 : decode cX0_init 12 = .ok (.aload_n 0, 1) := by decide +kernel
theorem dX0_init_13 : decode cX0_init 13 = .ok (.bipush 40, 2) := by decide +kernel
theorem dX0_init_15 : decode cX0_init 15 = .ok (.newarray .int, 2) := by decide +kernel
theorem dX0_init_17 : decode cX0_init 17 = .ok (.putfield 13, 3) := by decide +kernel
theorem dX0_init_20 : decode cX0_init 20 = .ok (.aload_n 0, 1) := by decide +kernel
theorem dX0_init_21 : decode cX0_init 21 = .ok (.bipush 40, 2) := by decide +kernel
theorem dX0_init_23 : decode cX0_init 23 = .ok (.newarray .int, 2) := by decide +kernel
theorem dX0_init_25 : decode cX0_init 25 = .ok (.putfield 16, 3) := by decide +kernel
theorem dX0_init_28 : decode cX0_init 28 = .ok (.aload_n 0, 1) := by decide +kernel
theorem dX0_init_29 : decode cX0_init 29 = .ok (.bipush 40, 2) := by decide +kernel
theorem dX0_init_31 : decode cX0_init 31 = .ok (.newarray .int, 2) := by decide +kernel
theorem dX0_init_33 : decode cX0_init 33 = .ok (.putfield 19, 3) := by decide +kernel
theorem dX0_init_36 : decode cX0_init 36 = .ok (.aload_n 0, 1) := by decide +kernel
theorem dX0_init_37 : decode cX0_init 37 = .ok (.bipush 40, 2) := by decide +kernel
theorem dX0_init_39 : decode cX0_init 39 = .ok (.newarray .int, 2) := by decide +kernel
theorem dX0_init_41 : decode cX0_init 41 = .ok (.putfield 22, 3) := by decide +kernel
theorem dX0_init_44 : decode cX0_init 44 = .ok (.aload_n 0, 1) := by decide +kernel
theorem dX0_init_45 : decode cX0_init 45 = .ok (.bipush 40, 2) := by decide +kernel
theorem dX0_init_47 : decode cX0_init 47 = .ok (.newarray .int, 2) := by decide +kernel
theorem dX0_init_49 : decode cX0_init 49 = .ok (.putfield 25, 3) := by decide +kernel
theorem dX0_init_52 : decode cX0_init 52 = .ok (.aload_n 0, 1) := by decide +kernel
theorem dX0_init_53 : decode cX0_init 53 = .ok (.bipush 40, 2) := by decide +kernel
theorem dX0_init_55 : decode cX0_init 55 = .ok (.newarray .int, 2) := by decide +kernel
theorem dX0_init_57 : decode cX0_init 57 = .ok (.putfield 28, 3) := by decide +kernel
theorem dX0_init_60 : decode cX0_init 60 = .ok (.aload_n 0, 1) := by decide +kernel
theorem dX0_init_61 : decode cX0_init 61 = .ok (.bipush 40, 2) := by decide +kernel
theorem dX0_init_63 : decode cX0_init 63 = .ok (.newarray .int, 2) := by decide +kernel
theorem dX0_init_65 : decode cX0_init 65 = .ok (.putfield 31, 3) := by decide +kernel
theorem dX0_init_68 : decode cX0_init 68 = .ok (.aload_n 0, 1) := by decide +kernel
theorem dX0_init_69 : decode cX0_init 69 = .ok (.bipush 40, 2) := by decide +kernel
theorem dX0_init_71 : decode cX0_init 71 = .ok (.newarray .int, 2) := by decide +kernel
theorem dX0_init_73 : decode cX0_init 73 = .ok (.putfield 34, 3) := by decide +kernel
theorem dX0_init_76 : decode cX0_init 76 = .ok (.aload_n 0, 1) := by decide +kernel
theorem dX0_init_77 : decode cX0_init 77 = .ok (.bipush 40, 2) := by decide +kernel
theorem dX0_init_79 : decode cX0_init 79 = .ok (.newarray .long, 2) := by decide +kernel
theorem dX0_init_81 : decode cX0_init 81 = .ok (.putfield 37, 3) := by decide +kernel
theorem dX0_init_84 : decode cX0_init 84 = .ok (.aload_n 0, 1) := by decide +kernel
theorem dX0_init_85 : decode cX0_init 85 = .ok (.bipush 8, 2) := by decide +kernel
theorem dX0_init_87 : decode cX0_init 87 = .ok (.newarray .int, 2) := by decide +kernel
theorem dX0_init_89 : decode cX0_init 89 = .ok (.putfield 41, 3) := by decide +kernel
theorem dX0_init_92 : decode cX0_init 92 = .ok (.aload_n 0, 1) := by decide +kernel
theorem dX0_init_93 : decode cX0_init 93 = .ok (.bipush 8, 2) := by decide +kernel
theorem dX0_init_95 : decode cX0_init 95 = .ok (.newarray .int, 2) := by decide +kernel
theorem dX0_init_97 : decode cX0_init 97 = .ok (.putfield 44, 3) := by decide +kernel
theorem dX0_init_100 : decode cX0_init 100 = .ok (.aload_n 0, 1) := by decide +kernel
theorem dX0_init_101 : decode cX0_init 101 = .ok (.sipush 320, 3) := by decide +kernel
theorem dX0_init_104 : decode cX0_init 104 = .ok (.newarray .int, 2) := by decide +kernel
theorem dX0_init_106 : decode cX0_init 106 = .ok (.putfield 47, 3) := by decide +kernel
theorem dX0_init_109 : decode cX0_init 109 = .ok (.return_, 1) := by decide +kernel
set_option maxRecDepth 20000 in
theorem ggX0_addExam_X0_requireRoom : GoodIn wsX0_addExam wsX0_requireRoom := goodIn_ca (goodIn_r _ [13, 14, 15, 3, 39, 40, 41, 42, 43, 44, 45, 46, 47, 48, 49, 50, 51, 52, 53, 54, 55, 56] (by decide +kernel) (by decide +kernel)) (goodIn_sub (fun _ h => List.mem_cons_of_mem _ (List.mem_append_right _ h)) (by decide +kernel))
set_option maxRecDepth 20000 in
theorem gX0_addExam_X0_requireRoom : GoodIn wsX0_addExam (wsV RX0 57 RX0 yX0_requireRoom wsX0_requireRoom) := goodIn_app (goodIn_of _ (by decide +kernel)) ggX0_addExam_X0_requireRoom
set_option maxRecDepth 20000 in
theorem ggX0_addExam_X0_bitOf : GoodIn wsX0_addExam wsX0_bitOf := goodIn_r _ [18] (by decide +kernel) (by decide +kernel)
set_option maxRecDepth 20000 in
theorem gX0_addExam_X0_bitOf : GoodIn wsX0_addExam (va_wsS RX0 68 yX0_bitOf wsX0_bitOf) := goodIn_app (goodIn_of _ (by decide +kernel)) ggX0_addExam_X0_bitOf
set_option maxRecDepth 20000 in
theorem ggX0_addExam_X0_put : GoodIn wsX0_addExam wsX0_put := goodIn_r _ [21] (by decide +kernel) (by decide +kernel)
set_option maxRecDepth 20000 in
theorem gX0_addExam_X0_put : GoodIn wsX0_addExam (va_wsS RX0 72 yX0_put wsX0_put) := goodIn_app (goodIn_of _ (by decide +kernel)) ggX0_addExam_X0_put
set_option maxRecDepth 20000 in
theorem ggX0_addExam_X0_putBits : GoodIn wsX0_addExam wsX0_putBits := goodIn_r _ [24] (by decide +kernel) (by decide +kernel)
set_option maxRecDepth 20000 in
theorem gX0_addExam_X0_putBits : GoodIn wsX0_addExam (va_wsS RX0 76 yX0_putBits wsX0_putBits) := goodIn_app (goodIn_of _ (by decide +kernel)) ggX0_addExam_X0_putBits
set_option maxRecDepth 20000 in
theorem ggX0_addExam_X0_settleExam : GoodIn wsX0_addExam wsX0_settleExam := goodIn_r _ [28, 7, 29, 5, 30, 6, 31, 32, 33, 34, 12, 35, 36, 37, 38, 19, 20, 21, 39, 40, 41, 42, 43, 44, 45, 46, 47, 48, 49, 50, 51, 52, 53, 54, 55, 56] (by decide +kernel) (by decide +kernel)
set_option maxRecDepth 20000 in
theorem gX0_addExam_X0_settleExam : GoodIn wsX0_addExam (wsV RX0 80 RX0 yX0_settleExam wsX0_settleExam) := goodIn_app (goodIn_of _ (by decide +kernel)) ggX0_addExam_X0_settleExam
theorem dX0_addExam_0 : decode cX0_addExam 0 = .ok (.iload_n 1, 1) := by decide +kernel
theorem dX0_addExam_1 : decode cX0_addExam 1 = .ok (.ifCond .lt 14, 3) := by decide +kernel
theorem dX0_addExam_4 : decode cX0_addExam 4 = .ok (.iload_n 2, 1) := by decide +kernel
theorem dX0_addExam_5 : decode cX0_addExam 5 = .ok (.bipush 20, 2) := by decide +kernel
theorem dX0_addExam_7 : decode cX0_addExam 7 = .ok (.if_icmp .gt 8, 3) := by decide +kernel
theorem dX0_addExam_10 : decode cX0_addExam 10 = .ok (.iload_n 2, 1) := by decide +kernel
theorem dX0_addExam_11 : decode cX0_addExam 11 = .ok (.iload_n 1, 1) := by decide +kernel
theorem dX0_addExam_12 : decode cX0_addExam 12 = .ok (.if_icmp .ge 13, 3) := by decide +kernel
theorem dX0_addExam_15 : decode cX0_addExam 15 = .ok (.new 50, 3) := by decide +kernel
theorem dX0_addExam_18 : decode cX0_addExam 18 = .ok (.dup, 1) := by decide +kernel
theorem dX0_addExam_19 : decode cX0_addExam 19 = .ok (.ldc 52, 2) := by decide +kernel
theorem dX0_addExam_21 : decode cX0_addExam 21 = .ok (.invokespecial 54, 3) := by decide +kernel
theorem dX0_addExam_24 : decode cX0_addExam 24 = .ok (.athrow, 1) := by decide +kernel
theorem dX0_addExam_25 : decode cX0_addExam 25 = .ok (.aload_n 0, 1) := by decide +kernel
theorem dX0_addExam_26 : decode cX0_addExam 26 = .ok (.invokevirtual 57, 3) := by decide +kernel
theorem dX0_addExam_29 : decode cX0_addExam 29 = .ok (.aload_n 0, 1) := by decide +kernel
theorem dX0_addExam_30 : decode cX0_addExam 30 = .ok (.getfield 60, 3) := by decide +kernel
theorem dX0_addExam_33 : decode cX0_addExam 33 = .ok (.istore_n 3, 1) := by decide +kernel
theorem dX0_addExam_34 : decode cX0_addExam 34 = .ok (.aload_n 0, 1) := by decide +kernel
theorem dX0_addExam_35 : decode cX0_addExam 35 = .ok (.dup, 1) := by decide +kernel
theorem dX0_addExam_36 : decode cX0_addExam 36 = .ok (.getfield 64, 3) := by decide +kernel
theorem dX0_addExam_39 : decode cX0_addExam 39 = .ok (.iload_n 3, 1) := by decide +kernel
theorem dX0_addExam_40 : decode cX0_addExam 40 = .ok (.invokestatic 68, 3) := by decide +kernel
theorem dX0_addExam_43 : decode cX0_addExam 43 = .ok (.lor, 1) := by decide +kernel
theorem dX0_addExam_44 : decode cX0_addExam 44 = .ok (.putfield 64, 3) := by decide +kernel
theorem dX0_addExam_47 : decode cX0_addExam 47 = .ok (.aload_n 0, 1) := by decide +kernel
theorem dX0_addExam_48 : decode cX0_addExam 48 = .ok (.getfield 9, 3) := by decide +kernel
theorem dX0_addExam_51 : decode cX0_addExam 51 = .ok (.iload_n 3, 1) := by decide +kernel
theorem dX0_addExam_52 : decode cX0_addExam 52 = .ok (.iload_n 1, 1) := by decide +kernel
theorem dX0_addExam_53 : decode cX0_addExam 53 = .ok (.invokestatic 72, 3) := by decide +kernel
theorem dX0_addExam_56 : decode cX0_addExam 56 = .ok (.aload_n 0, 1) := by decide +kernel
theorem dX0_addExam_57 : decode cX0_addExam 57 = .ok (.getfield 13, 3) := by decide +kernel
theorem dX0_addExam_60 : decode cX0_addExam 60 = .ok (.iload_n 3, 1) := by decide +kernel
theorem dX0_addExam_61 : decode cX0_addExam 61 = .ok (.iload_n 2, 1) := by decide +kernel
theorem dX0_addExam_62 : decode cX0_addExam 62 = .ok (.invokestatic 72, 3) := by decide +kernel
theorem dX0_addExam_65 : decode cX0_addExam 65 = .ok (.aload_n 0, 1) := by decide +kernel
theorem dX0_addExam_66 : decode cX0_addExam 66 = .ok (.getfield 25, 3) := by decide +kernel
theorem dX0_addExam_69 : decode cX0_addExam 69 = .ok (.iload_n 3, 1) := by decide +kernel
theorem dX0_addExam_70 : decode cX0_addExam 70 = .ok (.iconst (-1), 1) := by decide +kernel
theorem dX0_addExam_71 : decode cX0_addExam 71 = .ok (.invokestatic 72, 3) := by decide +kernel
theorem dX0_addExam_74 : decode cX0_addExam 74 = .ok (.aload_n 0, 1) := by decide +kernel
theorem dX0_addExam_75 : decode cX0_addExam 75 = .ok (.getfield 37, 3) := by decide +kernel
theorem dX0_addExam_78 : decode cX0_addExam 78 = .ok (.iload_n 3, 1) := by decide +kernel
theorem dX0_addExam_79 : decode cX0_addExam 79 = .ok (.iload_n 3, 1) := by decide +kernel
theorem dX0_addExam_80 : decode cX0_addExam 80 = .ok (.invokestatic 68, 3) := by decide +kernel
theorem dX0_addExam_83 : decode cX0_addExam 83 = .ok (.invokestatic 76, 3) := by decide +kernel
theorem dX0_addExam_86 : decode cX0_addExam 86 = .ok (.aload_n 0, 1) := by decide +kernel
theorem dX0_addExam_87 : decode cX0_addExam 87 = .ok (.iload_n 3, 1) := by decide +kernel
theorem dX0_addExam_88 : decode cX0_addExam 88 = .ok (.invokevirtual 80, 3) := by decide +kernel
theorem dX0_addExam_91 : decode cX0_addExam 91 = .ok (.aload_n 0, 1) := by decide +kernel
theorem dX0_addExam_92 : decode cX0_addExam 92 = .ok (.dup, 1) := by decide +kernel
theorem dX0_addExam_93 : decode cX0_addExam 93 = .ok (.getfield 60, 3) := by decide +kernel
theorem dX0_addExam_96 : decode cX0_addExam 96 = .ok (.iconst 1, 1) := by decide +kernel
theorem dX0_addExam_97 : decode cX0_addExam 97 = .ok (.iadd, 1) := by decide +kernel
theorem dX0_addExam_98 : decode cX0_addExam 98 = .ok (.putfield 60, 3) := by decide +kernel
theorem dX0_addExam_101 : decode cX0_addExam 101 = .ok (.iload_n 3, 1) := by decide +kernel
theorem dX0_addExam_102 : decode cX0_addExam 102 = .ok (.ireturn, 1) := by decide +kernel
set_option maxRecDepth 20000 in
theorem ggX0_addFork_X0_requirePlace : GoodIn wsX0_addFork wsX0_requirePlace := goodIn_ca (goodIn_r _ [11, 12, 13, 1, 55, 56, 57, 58, 59, 60, 61, 62, 63, 64, 65, 66, 67, 68, 69, 70, 71, 72] (by decide +kernel) (by decide +kernel)) (goodIn_sub (fun _ h => List.mem_cons_of_mem _ (List.mem_append_left _ (List.mem_append_left _ (List.mem_append_right _ h)))) (by decide +kernel))
set_option maxRecDepth 20000 in
theorem gX0_addFork_X0_requirePlace : GoodIn wsX0_addFork (wsV RX0 84 RX0 yX0_requirePlace wsX0_requirePlace) := goodIn_app (goodIn_of _ (by decide +kernel)) ggX0_addFork_X0_requirePlace
set_option maxRecDepth 20000 in
theorem ggX0_addFork_X0_requireWeight : GoodIn wsX0_addFork wsX0_requireWeight := goodIn_ca (goodIn_r _ [16, 17, 18] (by decide +kernel) (by decide +kernel)) (goodIn_sub (fun _ h => List.mem_cons_of_mem _ (List.mem_append_left _ (List.mem_append_right _ h))) (by decide +kernel))
set_option maxRecDepth 20000 in
theorem gX0_addFork_X0_requireWeight : GoodIn wsX0_addFork (va_wsS RX0 87 yX0_requireWeight wsX0_requireWeight) := goodIn_app (goodIn_of _ (by decide +kernel)) ggX0_addFork_X0_requireWeight
set_option maxRecDepth 20000 in
theorem ggX0_addFork_X0_requireRoom : GoodIn wsX0_addFork wsX0_requireRoom := goodIn_ca (goodIn_r _ [22, 23, 24, 1, 55, 56, 57, 58, 59, 60, 61, 62, 63, 64, 65, 66, 67, 68, 69, 70, 71, 72] (by decide +kernel) (by decide +kernel)) (goodIn_sub (fun _ h => List.mem_cons_of_mem _ (List.mem_append_right _ h)) (by decide +kernel))
set_option maxRecDepth 20000 in
theorem gX0_addFork_X0_requireRoom : GoodIn wsX0_addFork (wsV RX0 57 RX0 yX0_requireRoom wsX0_requireRoom) := goodIn_app (goodIn_of _ (by decide +kernel)) ggX0_addFork_X0_requireRoom
set_option maxRecDepth 20000 in
theorem ggX0_addFork_X0_put : GoodIn wsX0_addFork wsX0_put := goodIn_r _ [27] (by decide +kernel) (by decide +kernel)
set_option maxRecDepth 20000 in
theorem gX0_addFork_X0_put : GoodIn wsX0_addFork (va_wsS RX0 72 yX0_put wsX0_put) := goodIn_app (goodIn_of _ (by decide +kernel)) ggX0_addFork_X0_put
set_option maxRecDepth 20000 in
theorem ggX0_addFork_X0_bitOf : GoodIn wsX0_addFork wsX0_bitOf := goodIn_r _ [30] (by decide +kernel) (by decide +kernel)
set_option maxRecDepth 20000 in
theorem gX0_addFork_X0_bitOf : GoodIn wsX0_addFork (va_wsS RX0 68 yX0_bitOf wsX0_bitOf) := goodIn_app (goodIn_of _ (by decide +kernel)) ggX0_addFork_X0_bitOf
set_option maxRecDepth 20000 in
theorem ggX0_addFork_X0_bitsAt : GoodIn wsX0_addFork wsX0_bitsAt := goodIn_r _ [33] (by decide +kernel) (by decide +kernel)
set_option maxRecDepth 20000 in
theorem gX0_addFork_X0_bitsAt : GoodIn wsX0_addFork (va_wsS RX0 90 yX0_bitsAt wsX0_bitsAt) := goodIn_app (goodIn_of _ (by decide +kernel)) ggX0_addFork_X0_bitsAt
set_option maxRecDepth 20000 in
theorem ggX0_addFork_X0_putBits : GoodIn wsX0_addFork wsX0_putBits := goodIn_r _ [36] (by decide +kernel) (by decide +kernel)
set_option maxRecDepth 20000 in
theorem gX0_addFork_X0_putBits : GoodIn wsX0_addFork (va_wsS RX0 76 yX0_putBits wsX0_putBits) := goodIn_app (goodIn_of _ (by decide +kernel)) ggX0_addFork_X0_putBits
set_option maxRecDepth 20000 in
theorem ggX0_addFork_X0_settleFork : GoodIn wsX0_addFork wsX0_settleFork := goodIn_r _ [40, 41, 42, 43, 44, 45, 46, 10, 47, 2, 3, 48, 49, 50, 51, 52, 53, 54, 25, 26, 27, 55, 56, 57, 58, 59, 60, 61, 62, 63, 64, 65, 66, 67, 68, 69, 70, 71, 72] (by decide +kernel) (by decide +kernel)
set_option maxRecDepth 20000 in
theorem gX0_addFork_X0_settleFork : GoodIn wsX0_addFork (wsV RX0 94 RX0 yX0_settleFork wsX0_settleFork) := goodIn_app (goodIn_of _ (by decide +kernel)) ggX0_addFork_X0_settleFork
theorem dX0_addFork_0 : decode cX0_addFork 0 = .ok (.aload_n 0, 1) := by decide +kernel
theorem dX0_addFork_1 : decode cX0_addFork 1 = .ok (.iload_n 1, 1) := by decide +kernel
theorem dX0_addFork_2 : decode cX0_addFork 2 = .ok (.invokevirtual 84, 3) := by decide +kernel
theorem dX0_addFork_5 : decode cX0_addFork 5 = .ok (.aload_n 0, 1) := by decide +kernel
theorem dX0_addFork_6 : decode cX0_addFork 6 = .ok (.iload_n 2, 1) := by decide +kernel
theorem dX0_addFork_7 : decode cX0_addFork 7 = .ok (.invokevirtual 84, 3) := by decide +kernel
theorem dX0_addFork_10 : decode cX0_addFork 10 = .ok (.iload_n 3, 1) := by decide +kernel
theorem dX0_addFork_11 : decode cX0_addFork 11 = .ok (.invokestatic 87, 3) := by decide +kernel
theorem dX0_addFork_14 : decode cX0_addFork 14 = .ok (.aload_n 0, 1) := by decide +kernel
theorem dX0_addFork_15 : decode cX0_addFork 15 = .ok (.invokevirtual 57, 3) := by decide +kernel
theorem dX0_addFork_18 : decode cX0_addFork 18 = .ok (.aload_n 0, 1) := by decide +kernel
theorem dX0_addFork_19 : decode cX0_addFork 19 = .ok (.getfield 60, 3) := by decide +kernel
theorem dX0_addFork_22 : decode cX0_addFork 22 = .ok (.istore 4, 2) := by decide +kernel
theorem dX0_addFork_24 : decode cX0_addFork 24 = .ok (.aload_n 0, 1) := by decide +kernel
theorem dX0_addFork_25 : decode cX0_addFork 25 = .ok (.getfield 16, 3) := by decide +kernel
theorem dX0_addFork_28 : decode cX0_addFork 28 = .ok (.iload 4, 2) := by decide +kernel
theorem dX0_addFork_30 : decode cX0_addFork 30 = .ok (.iload_n 1, 1) := by decide +kernel
theorem dX0_addFork_31 : decode cX0_addFork 31 = .ok (.invokestatic 72, 3) := by decide +kernel
theorem dX0_addFork_34 : decode cX0_addFork 34 = .ok (.aload_n 0, 1) := by decide +kernel
theorem dX0_addFork_35 : decode cX0_addFork 35 = .ok (.getfield 19, 3) := by decide +kernel
theorem dX0_addFork_38 : decode cX0_addFork 38 = .ok (.iload 4, 2) := by decide +kernel
theorem dX0_addFork_40 : decode cX0_addFork 40 = .ok (.iload_n 2, 1) := by decide +kernel
theorem dX0_addFork_41 : decode cX0_addFork 41 = .ok (.invokestatic 72, 3) := by decide +kernel
theorem dX0_addFork_44 : decode cX0_addFork 44 = .ok (.aload_n 0, 1) := by decide +kernel
theorem dX0_addFork_45 : decode cX0_addFork 45 = .ok (.getfield 22, 3) := by decide +kernel
theorem dX0_addFork_48 : decode cX0_addFork 48 = .ok (.iload 4, 2) := by decide +kernel
theorem dX0_addFork_50 : decode cX0_addFork 50 = .ok (.iload_n 3, 1) := by decide +kernel
theorem dX0_addFork_51 : decode cX0_addFork 51 = .ok (.invokestatic 72, 3) := by decide +kernel
theorem dX0_addFork_54 : decode cX0_addFork 54 = .ok (.aload_n 0, 1) := by decide +kernel
theorem dX0_addFork_55 : decode cX0_addFork 55 = .ok (.getfield 25, 3) := by decide +kernel
theorem dX0_addFork_58 : decode cX0_addFork 58 = .ok (.iload 4, 2) := by decide +kernel
theorem dX0_addFork_60 : decode cX0_addFork 60 = .ok (.iconst (-1), 1) := by decide +kernel
theorem dX0_addFork_61 : decode cX0_addFork 61 = .ok (.invokestatic 72, 3) := by decide +kernel
theorem dX0_addFork_64 : decode cX0_addFork 64 = .ok (.aload_n 0, 1) := by decide +kernel
theorem dX0_addFork_65 : decode cX0_addFork 65 = .ok (.getfield 37, 3) := by decide +kernel
theorem dX0_addFork_68 : decode cX0_addFork 68 = .ok (.iload 4, 2) := by decide +kernel
theorem dX0_addFork_70 : decode cX0_addFork 70 = .ok (.iload 4, 2) := by decide +kernel
theorem dX0_addFork_72 : decode cX0_addFork 72 = .ok (.invokestatic 68, 3) := by decide +kernel
theorem dX0_addFork_75 : decode cX0_addFork 75 = .ok (.aload_n 0, 1) := by decide +kernel
theorem dX0_addFork_76 : decode cX0_addFork 76 = .ok (.getfield 37, 3) := by decide +kernel
theorem dX0_addFork_79 : decode cX0_addFork 79 = .ok (.iload_n 1, 1) := by decide +kernel
theorem dX0_addFork_80 : decode cX0_addFork 80 = .ok (.invokestatic 90, 3) := by decide +kernel
theorem dX0_addFork_83 : decode cX0_addFork 83 = .ok (.lor, 1) := by decide +kernel
theorem dX0_addFork_84 : decode cX0_addFork 84 = .ok (.aload_n 0, 1) := by decide +kernel
theorem dX0_addFork_85 : decode cX0_addFork 85 = .ok (.getfield 37, 3) := by decide +kernel
theorem dX0_addFork_88 : decode cX0_addFork 88 = .ok (.iload_n 2, 1) := by decide +kernel
theorem dX0_addFork_89 : decode cX0_addFork 89 = .ok (.invokestatic 90, 3) := by decide +kernel
theorem dX0_addFork_92 : decode cX0_addFork 92 = .ok (.lor, 1) := by decide +kernel
theorem dX0_addFork_93 : decode cX0_addFork 93 = .ok (.invokestatic 76, 3) := by decide +kernel
theorem dX0_addFork_96 : decode cX0_addFork 96 = .ok (.aload_n 0, 1) := by decide +kernel
theorem dX0_addFork_97 : decode cX0_addFork 97 = .ok (.iload 4, 2) := by decide +kernel
theorem dX0_addFork_99 : decode cX0_addFork 99 = .ok (.invokevirtual 94, 3) := by decide +kernel
theorem dX0_addFork_102 : decode cX0_addFork 102 = .ok (.aload_n 0, 1) := by decide +kernel
theorem dX0_addFork_103 : decode cX0_addFork 103 = .ok (.dup, 1) := by decide +kernel
theorem dX0_addFork_104 : decode cX0_addFork 104 = .ok (.getfield 60, 3) := by decide +kernel
theorem dX0_addFork_107 : decode cX0_addFork 107 = .ok (.iconst 1, 1) := by decide +kernel
theorem dX0_addFork_108 : decode cX0_addFork 108 = .ok (.iadd, 1) := by decide +kernel
theorem dX0_addFork_109 : decode cX0_addFork 109 = .ok (.putfield 60, 3) := by decide +kernel
theorem dX0_addFork_112 : decode cX0_addFork 112 = .ok (.iload 4, 2) := by decide +kernel
theorem dX0_addFork_114 : decode cX0_addFork 114 = .ok (.ireturn, 1) := by decide +kernel
set_option maxRecDepth 20000 in
theorem ggX0_grade_X0_requireExam : GoodIn wsX0_grade wsX0_requireExam := goodIn_ca (goodIn_r _ [14, 15, 16, 17, 18, 19, 13, 20, 21, 22, 23, 24, 25, 26, 27, 28, 29, 65, 66, 67, 68, 69, 70, 71, 72, 73, 74, 75, 76, 77, 78, 79, 80, 81, 82] (by decide +kernel) (by decide +kernel)) (goodIn_sub (fun _ h => List.mem_cons_of_mem _ (List.mem_append_right _ h)) (by decide +kernel))
set_option maxRecDepth 20000 in
theorem gX0_grade_X0_requireExam : GoodIn wsX0_grade (wsV RX0 97 RX0 yX0_requireExam wsX0_requireExam) := goodIn_app (goodIn_of _ (by decide +kernel)) ggX0_grade_X0_requireExam
set_option maxRecDepth 20000 in
theorem ggX0_grade_X0_at : GoodIn wsX0_grade wsX0_at := goodIn_r _ [32] (by decide +kernel) (by decide +kernel)
set_option maxRecDepth 20000 in
theorem gX0_grade_X0_at : GoodIn wsX0_grade (va_wsS RX0 100 yX0_at wsX0_at) := goodIn_app (goodIn_of _ (by decide +kernel)) ggX0_grade_X0_at
set_option maxRecDepth 20000 in
theorem ggX0_grade_X0_hasGrade : GoodIn wsX0_grade wsX0_hasGrade := goodIn_r _ [36, 7, 30, 31, 13, 32, 65, 66, 67, 68, 69, 70, 71, 72, 73, 74, 75, 76, 77, 78, 79, 80, 81, 82] (by decide +kernel) (by decide +kernel)
set_option maxRecDepth 20000 in
theorem gX0_grade_X0_hasGrade : GoodIn wsX0_grade (wsV RX0 106 RX0 yX0_hasGrade wsX0_hasGrade) := goodIn_app (goodIn_of _ (by decide +kernel)) ggX0_grade_X0_hasGrade
set_option maxRecDepth 20000 in
theorem ggX0_grade_X0_put : GoodIn wsX0_grade wsX0_put := goodIn_r _ [39] (by decide +kernel) (by decide +kernel)
set_option maxRecDepth 20000 in
theorem gX0_grade_X0_put : GoodIn wsX0_grade (va_wsS RX0 72 yX0_put wsX0_put) := goodIn_app (goodIn_of _ (by decide +kernel)) ggX0_grade_X0_put
set_option maxRecDepth 20000 in
theorem ggX0_grade_X0_settleExam : GoodIn wsX0_grade wsX0_settleExam := goodIn_r _ [43, 7, 44, 5, 45, 6, 46, 33, 34, 35, 13, 36, 30, 31, 32, 37, 38, 39, 65, 66, 67, 68, 69, 70, 71, 72, 73, 74, 75, 76, 77, 78, 79, 80, 81, 82] (by decide +kernel) (by decide +kernel)
set_option maxRecDepth 20000 in
theorem gX0_grade_X0_settleExam : GoodIn wsX0_grade (wsV RX0 80 RX0 yX0_settleExam wsX0_settleExam) := goodIn_app (goodIn_of _ (by decide +kernel)) ggX0_grade_X0_settleExam
set_option maxRecDepth 20000 in
theorem ggX0_grade_X0_settleForksAfter : GoodIn wsX0_grade wsX0_settleForksAfter := goodIn_r _ [50, 21, 22, 23, 24, 13, 25, 26, 27, 28, 29, 51, 52, 53, 54, 44, 45, 46, 55, 56, 57, 58, 59, 60, 61, 62, 63, 64, 30, 31, 32, 37, 38, 39, 65, 66, 67, 68, 69, 70, 71, 72, 73, 74, 75, 76, 77, 78, 79, 80, 81, 82] (by decide +kernel) (by decide +kernel)
set_option maxRecDepth 20000 in
theorem gX0_grade_X0_settleForksAfter : GoodIn wsX0_grade (wsV RX0 121 RX0 yX0_settleForksAfter wsX0_settleForksAfter) := goodIn_app (goodIn_of _ (by decide +kernel)) ggX0_grade_X0_settleForksAfter
theorem dX0_grade_0 : decode cX0_grade 0 = .ok (.aload_n 0, 1) := by decide +kernel
theorem dX0_grade_1 : decode cX0_grade 1 = .ok (.iload_n 1, 1) := by decide +kernel
theorem dX0_grade_2 : decode cX0_grade 2 = .ok (.invokevirtual 97, 3) := by decide +kernel
theorem dX0_grade_5 : decode cX0_grade 5 = .ok (.iload_n 2, 1) := by decide +kernel
theorem dX0_grade_6 : decode cX0_grade 6 = .ok (.aload_n 0, 1) := by decide +kernel
theorem dX0_grade_7 : decode cX0_grade 7 = .ok (.getfield 9, 3) := by decide +kernel
theorem dX0_grade_10 : decode cX0_grade 10 = .ok (.iload_n 1, 1) := by decide +kernel
theorem dX0_grade_11 : decode cX0_grade 11 = .ok (.invokestatic 100, 3) := by decide +kernel
theorem dX0_grade_14 : decode cX0_grade 14 = .ok (.if_icmp .lt 15, 3) := by decide +kernel
theorem dX0_grade_17 : decode cX0_grade 17 = .ok (.iload_n 2, 1) := by decide +kernel
theorem dX0_grade_18 : decode cX0_grade 18 = .ok (.aload_n 0, 1) := by decide +kernel
theorem dX0_grade_19 : decode cX0_grade 19 = .ok (.getfield 13, 3) := by decide +kernel
theorem dX0_grade_22 : decode cX0_grade 22 = .ok (.iload_n 1, 1) := by decide +kernel
theorem dX0_grade_23 : decode cX0_grade 23 = .ok (.invokestatic 100, 3) := by decide +kernel
theorem dX0_grade_26 : decode cX0_grade 26 = .ok (.if_icmp .le 13, 3) := by decide +kernel
theorem dX0_grade_29 : decode cX0_grade 29 = .ok (.new 50, 3) := by decide +kernel
theorem dX0_grade_32 : decode cX0_grade 32 = .ok (.dup, 1) := by decide +kernel
theorem dX0_grade_33 : decode cX0_grade 33 = .ok (.ldc 104, 2) := by decide +kernel
theorem dX0_grade_35 : decode cX0_grade 35 = .ok (.invokespecial 54, 3) := by decide +kernel
theorem dX0_grade_38 : decode cX0_grade 38 = .ok (.athrow, 1) := by decide +kernel
theorem dX0_grade_39 : decode cX0_grade 39 = .ok (.aload_n 0, 1) := by decide +kernel
theorem dX0_grade_40 : decode cX0_grade 40 = .ok (.iload_n 1, 1) := by decide +kernel
theorem dX0_grade_41 : decode cX0_grade 41 = .ok (.invokevirtual 106, 3) := by decide +kernel
theorem dX0_grade_44 : decode cX0_grade 44 = .ok (.ifCond .eq 13, 3) := by decide +kernel
theorem dX0_grade_47 : decode cX0_grade 47 = .ok (.new 110, 3) := by decide +kernel
theorem dX0_grade_50 : decode cX0_grade 50 = .ok (.dup, 1) := by decide +kernel
theorem dX0_grade_51 : decode cX0_grade 51 = .ok (.ldc 112, 2) := by decide +kernel
theorem dX0_grade_53 : decode cX0_grade 53 = .ok (.invokespecial 114, 3) := by decide +kernel
theorem dX0_grade_56 : decode cX0_grade 56 = .ok (.athrow, 1) := by decide +kernel
theorem dX0_grade_57 : decode cX0_grade 57 = .ok (.aload_n 0, 1) := by decide +kernel
theorem dX0_grade_58 : decode cX0_grade 58 = .ok (.getfield 25, 3) := by decide +kernel
theorem dX0_grade_61 : decode cX0_grade 61 = .ok (.iload_n 1, 1) := by decide +kernel
theorem dX0_grade_62 : decode cX0_grade 62 = .ok (.iload_n 2, 1) := by decide +kernel
theorem dX0_grade_63 : decode cX0_grade 63 = .ok (.invokestatic 72, 3) := by decide +kernel
theorem dX0_grade_66 : decode cX0_grade 66 = .ok (.aload_n 0, 1) := by decide +kernel
theorem dX0_grade_67 : decode cX0_grade 67 = .ok (.dup, 1) := by decide +kernel
theorem dX0_grade_68 : decode cX0_grade 68 = .ok (.getfield 115, 3) := by decide +kernel
theorem dX0_grade_71 : decode cX0_grade 71 = .ok (.iconst 1, 1) := by decide +kernel
theorem dX0_grade_72 : decode cX0_grade 72 = .ok (.iadd, 1) := by decide +kernel
theorem dX0_grade_73 : decode cX0_grade 73 = .ok (.putfield 115, 3) := by decide +kernel
theorem dX0_grade_76 : decode cX0_grade 76 = .ok (.aload_n 0, 1) := by decide +kernel
theorem dX0_grade_77 : decode cX0_grade 77 = .ok (.dup, 1) := by decide +kernel
theorem dX0_grade_78 : decode cX0_grade 78 = .ok (.getfield 118, 3) := by decide +kernel
theorem dX0_grade_81 : decode cX0_grade 81 = .ok (.iload_n 2, 1) := by decide +kernel
theorem dX0_grade_82 : decode cX0_grade 82 = .ok (.iadd, 1) := by decide +kernel
theorem dX0_grade_83 : decode cX0_grade 83 = .ok (.putfield 118, 3) := by decide +kernel
theorem dX0_grade_86 : decode cX0_grade 86 = .ok (.aload_n 0, 1) := by decide +kernel
theorem dX0_grade_87 : decode cX0_grade 87 = .ok (.iload_n 1, 1) := by decide +kernel
theorem dX0_grade_88 : decode cX0_grade 88 = .ok (.invokevirtual 80, 3) := by decide +kernel
theorem dX0_grade_91 : decode cX0_grade 91 = .ok (.aload_n 0, 1) := by decide +kernel
theorem dX0_grade_92 : decode cX0_grade 92 = .ok (.iload_n 1, 1) := by decide +kernel
theorem dX0_grade_93 : decode cX0_grade 93 = .ok (.invokevirtual 121, 3) := by decide +kernel
theorem dX0_grade_96 : decode cX0_grade 96 = .ok (.aload_n 0, 1) := by decide +kernel
theorem dX0_grade_97 : decode cX0_grade 97 = .ok (.getfield 115, 3) := by decide +kernel
theorem dX0_grade_100 : decode cX0_grade 100 = .ok (.ireturn, 1) := by decide +kernel
set_option maxRecDepth 20000 in
theorem ggX0_weigh_X0_requireFork : GoodIn wsX0_weigh wsX0_requireFork := goodIn_ca (goodIn_r _ [6, 7, 8, 9, 10, 11, 5, 12, 13, 14, 15, 16, 17, 18, 19, 20, 21, 33, 34, 35, 36, 37, 38, 39, 40, 41, 42, 43, 44, 45, 46, 47, 48, 49, 50] (by decide +kernel) (by decide +kernel)) (goodIn_sub (fun _ h => List.mem_cons_of_mem _ (List.mem_append_left _ (List.mem_append_right _ h))) (by decide +kernel))
set_option maxRecDepth 20000 in
theorem gX0_weigh_X0_requireFork : GoodIn wsX0_weigh (wsV RX0 124 RX0 yX0_requireFork wsX0_requireFork) := goodIn_app (goodIn_of _ (by decide +kernel)) ggX0_weigh_X0_requireFork
set_option maxRecDepth 20000 in
theorem ggX0_weigh_X0_requireWeight : GoodIn wsX0_weigh wsX0_requireWeight := goodIn_ca (goodIn_r _ [24, 25, 26] (by decide +kernel) (by decide +kernel)) (goodIn_sub (fun _ h => List.mem_cons_of_mem _ (List.mem_append_right _ h)) (by decide +kernel))
set_option maxRecDepth 20000 in
theorem gX0_weigh_X0_requireWeight : GoodIn wsX0_weigh (va_wsS RX0 87 yX0_requireWeight wsX0_requireWeight) := goodIn_app (goodIn_of _ (by decide +kernel)) ggX0_weigh_X0_requireWeight
set_option maxRecDepth 20000 in
theorem ggX0_weigh_X0_at : GoodIn wsX0_weigh wsX0_at := goodIn_r _ [29] (by decide +kernel) (by decide +kernel)
set_option maxRecDepth 20000 in
theorem gX0_weigh_X0_at : GoodIn wsX0_weigh (va_wsS RX0 100 yX0_at wsX0_at) := goodIn_app (goodIn_of _ (by decide +kernel)) ggX0_weigh_X0_at
set_option maxRecDepth 20000 in
theorem ggX0_weigh_X0_put : GoodIn wsX0_weigh wsX0_put := goodIn_r _ [32] (by decide +kernel) (by decide +kernel)
set_option maxRecDepth 20000 in
theorem gX0_weigh_X0_put : GoodIn wsX0_weigh (va_wsS RX0 72 yX0_put wsX0_put) := goodIn_app (goodIn_of _ (by decide +kernel)) ggX0_weigh_X0_put
theorem dX0_weigh_0 : decode cX0_weigh 0 = .ok (.aload_n 0, 1) := by decide +kernel
theorem dX0_weigh_1 : decode cX0_weigh 1 = .ok (.iload_n 1, 1) := by decide +kernel
theorem dX0_weigh_2 : decode cX0_weigh 2 = .ok (.invokevirtual 124, 3) := by decide +kernel
theorem dX0_weigh_5 : decode cX0_weigh 5 = .ok (.iload_n 2, 1) := by decide +kernel
theorem dX0_weigh_6 : decode cX0_weigh 6 = .ok (.invokestatic 87, 3) := by decide +kernel
theorem dX0_weigh_9 : decode cX0_weigh 9 = .ok (.aload_n 0, 1) := by decide +kernel
theorem dX0_weigh_10 : decode cX0_weigh 10 = .ok (.getfield 22, 3) := by decide +kernel
theorem dX0_weigh_13 : decode cX0_weigh 13 = .ok (.iload_n 1, 1) := by decide +kernel
theorem dX0_weigh_14 : decode cX0_weigh 14 = .ok (.invokestatic 100, 3) := by decide +kernel
theorem dX0_weigh_17 : decode cX0_weigh 17 = .ok (.istore_n 3, 1) := by decide +kernel
theorem dX0_weigh_18 : decode cX0_weigh 18 = .ok (.aload_n 0, 1) := by decide +kernel
theorem dX0_weigh_19 : decode cX0_weigh 19 = .ok (.getfield 22, 3) := by decide +kernel
theorem dX0_weigh_22 : decode cX0_weigh 22 = .ok (.iload_n 1, 1) := by decide +kernel
theorem dX0_weigh_23 : decode cX0_weigh 23 = .ok (.iload_n 2, 1) := by decide +kernel
theorem dX0_weigh_24 : decode cX0_weigh 24 = .ok (.invokestatic 72, 3) := by decide +kernel
theorem dX0_weigh_27 : decode cX0_weigh 27 = .ok (.iload_n 3, 1) := by decide +kernel
theorem dX0_weigh_28 : decode cX0_weigh 28 = .ok (.ireturn, 1) := by decide +kernel
set_option maxRecDepth 20000 in
theorem ggX0_enroll_X0_requirePlace : GoodIn wsX0_enroll wsX0_requirePlace := goodIn_ca (goodIn_r _ [9, 10, 11, 12, 16, 17, 18, 19, 20, 21, 22, 23, 24, 25, 26, 27, 28, 29, 30, 31, 32, 33] (by decide +kernel) (by decide +kernel)) (goodIn_sub (fun _ h => List.mem_cons_of_mem _ (List.mem_append_right _ h)) (by decide +kernel))
set_option maxRecDepth 20000 in
theorem gX0_enroll_X0_requirePlace : GoodIn wsX0_enroll (wsV RX0 84 RX0 yX0_requirePlace wsX0_requirePlace) := goodIn_app (goodIn_of _ (by decide +kernel)) ggX0_enroll_X0_requirePlace
set_option maxRecDepth 20000 in
theorem ggX0_enroll_X0_put : GoodIn wsX0_enroll wsX0_put := goodIn_r _ [15] (by decide +kernel) (by decide +kernel)
set_option maxRecDepth 20000 in
theorem gX0_enroll_X0_put : GoodIn wsX0_enroll (va_wsS RX0 72 yX0_put wsX0_put) := goodIn_app (goodIn_of _ (by decide +kernel)) ggX0_enroll_X0_put
theorem dX0_enroll_0 : decode cX0_enroll 0 = .ok (.aload_n 0, 1) := by decide +kernel
theorem dX0_enroll_1 : decode cX0_enroll 1 = .ok (.iload_n 1, 1) := by decide +kernel
theorem dX0_enroll_2 : decode cX0_enroll 2 = .ok (.invokevirtual 84, 3) := by decide +kernel
theorem dX0_enroll_5 : decode cX0_enroll 5 = .ok (.aload_n 0, 1) := by decide +kernel
theorem dX0_enroll_6 : decode cX0_enroll 6 = .ok (.getfield 127, 3) := by decide +kernel
theorem dX0_enroll_9 : decode cX0_enroll 9 = .ok (.bipush 8, 2) := by decide +kernel
theorem dX0_enroll_11 : decode cX0_enroll 11 = .ok (.if_icmp .lt 13, 3) := by decide +kernel
theorem dX0_enroll_14 : decode cX0_enroll 14 = .ok (.new 110, 3) := by decide +kernel
theorem dX0_enroll_17 : decode cX0_enroll 17 = .ok (.dup, 1) := by decide +kernel
theorem dX0_enroll_18 : decode cX0_enroll 18 = .ok (.ldc 130, 2) := by decide +kernel
theorem dX0_enroll_20 : decode cX0_enroll 20 = .ok (.invokespecial 114, 3) := by decide +kernel
theorem dX0_enroll_23 : decode cX0_enroll 23 = .ok (.athrow, 1) := by decide +kernel
theorem dX0_enroll_24 : decode cX0_enroll 24 = .ok (.aload_n 0, 1) := by decide +kernel
theorem dX0_enroll_25 : decode cX0_enroll 25 = .ok (.getfield 127, 3) := by decide +kernel
theorem dX0_enroll_28 : decode cX0_enroll 28 = .ok (.istore_n 2, 1) := by decide +kernel
theorem dX0_enroll_29 : decode cX0_enroll 29 = .ok (.aload_n 0, 1) := by decide +kernel
theorem dX0_enroll_30 : decode cX0_enroll 30 = .ok (.getfield 41, 3) := by decide +kernel
theorem dX0_enroll_33 : decode cX0_enroll 33 = .ok (.iload_n 2, 1) := by decide +kernel
theorem dX0_enroll_34 : decode cX0_enroll 34 = .ok (.iload_n 1, 1) := by decide +kernel
theorem dX0_enroll_35 : decode cX0_enroll 35 = .ok (.invokestatic 72, 3) := by decide +kernel
theorem dX0_enroll_38 : decode cX0_enroll 38 = .ok (.aload_n 0, 1) := by decide +kernel
theorem dX0_enroll_39 : decode cX0_enroll 39 = .ok (.dup, 1) := by decide +kernel
theorem dX0_enroll_40 : decode cX0_enroll 40 = .ok (.getfield 127, 3) := by decide +kernel
theorem dX0_enroll_43 : decode cX0_enroll 43 = .ok (.iconst 1, 1) := by decide +kernel
theorem dX0_enroll_44 : decode cX0_enroll 44 = .ok (.iadd, 1) := by decide +kernel
theorem dX0_enroll_45 : decode cX0_enroll 45 = .ok (.putfield 127, 3) := by decide +kernel
theorem dX0_enroll_48 : decode cX0_enroll 48 = .ok (.iload_n 2, 1) := by decide +kernel
theorem dX0_enroll_49 : decode cX0_enroll 49 = .ok (.ireturn, 1) := by decide +kernel
set_option maxRecDepth 20000 in
theorem ggX0_turn_X0_requireStudent : GoodIn wsX0_turn wsX0_requireStudent := goodIn_ca (goodIn_r _ [8, 9, 10, 11, 38, 39, 40, 41, 42, 43, 44, 45, 46, 47, 48, 49, 50, 51, 52, 53, 54, 55] (by decide +kernel) (by decide +kernel)) (goodIn_sub (fun _ h => List.mem_cons_of_mem _ (List.mem_append_right _ h)) (by decide +kernel))
set_option maxRecDepth 20000 in
theorem gX0_turn_X0_requireStudent : GoodIn wsX0_turn (wsV RX0 132 RX0 yX0_requireStudent wsX0_requireStudent) := goodIn_app (goodIn_of _ (by decide +kernel)) ggX0_turn_X0_requireStudent
set_option maxRecDepth 20000 in
theorem ggX0_turn_X0_at : GoodIn wsX0_turn wsX0_at := goodIn_r _ [14] (by decide +kernel) (by decide +kernel)
set_option maxRecDepth 20000 in
theorem gX0_turn_X0_at : GoodIn wsX0_turn (va_wsS RX0 100 yX0_at wsX0_at) := goodIn_app (goodIn_of _ (by decide +kernel)) ggX0_turn_X0_at
set_option maxRecDepth 20000 in
theorem ggX0_turn_X0_holdsExam : GoodIn wsX0_turn wsX0_holdsExam := goodIn_r _ [18, 19, 20, 21, 7, 22, 38, 39, 40, 41, 42, 43, 44, 45, 46, 47, 48, 49, 50, 51, 52, 53, 54, 55] (by decide +kernel) (by decide +kernel)
set_option maxRecDepth 20000 in
theorem gX0_turn_X0_holdsExam : GoodIn wsX0_turn (wsV RX0 135 RX0 yX0_holdsExam wsX0_holdsExam) := goodIn_app (goodIn_of _ (by decide +kernel)) ggX0_turn_X0_holdsExam
set_option maxRecDepth 20000 in
theorem ggX0_turn_X0_walk : GoodIn wsX0_turn wsX0_walk := goodIn_r _ [26, 3, 27, 28, 12, 13, 7, 14, 29, 30, 31, 32, 33, 34, 35, 36, 37, 38, 39, 40, 41, 42, 43, 44, 45, 46, 47, 48, 49, 50, 51, 52, 53, 54, 55] (by decide +kernel) (by decide +kernel)
set_option maxRecDepth 20000 in
theorem gX0_turn_X0_walk : GoodIn wsX0_turn (wsV RX0 140 RX0 yX0_walk wsX0_walk) := goodIn_app (goodIn_of _ (by decide +kernel)) ggX0_turn_X0_walk
theorem dX0_turn_0 : decode cX0_turn 0 = .ok (.aload_n 0, 1) := by decide +kernel
theorem dX0_turn_1 : decode cX0_turn 1 = .ok (.iload_n 1, 1) := by decide +kernel
theorem dX0_turn_2 : decode cX0_turn 2 = .ok (.invokevirtual 132, 3) := by decide +kernel
theorem dX0_turn_5 : decode cX0_turn 5 = .ok (.aload_n 0, 1) := by decide +kernel
theorem dX0_turn_6 : decode cX0_turn 6 = .ok (.aload_n 0, 1) := by decide +kernel
theorem dX0_turn_7 : decode cX0_turn 7 = .ok (.getfield 41, 3) := by decide +kernel
theorem dX0_turn_10 : decode cX0_turn 10 = .ok (.iload_n 1, 1) := by decide +kernel
theorem dX0_turn_11 : decode cX0_turn 11 = .ok (.invokestatic 100, 3) := by decide +kernel
theorem dX0_turn_14 : decode cX0_turn 14 = .ok (.invokevirtual 135, 3) := by decide +kernel
theorem dX0_turn_17 : decode cX0_turn 17 = .ok (.ifCond .eq 13, 3) := by decide +kernel
theorem dX0_turn_20 : decode cX0_turn 20 = .ok (.new 110, 3) := by decide +kernel
theorem dX0_turn_23 : decode cX0_turn 23 = .ok (.dup, 1) := by decide +kernel
theorem dX0_turn_24 : decode cX0_turn 24 = .ok (.ldc 138, 2) := by decide +kernel
theorem dX0_turn_26 : decode cX0_turn 26 = .ok (.invokespecial 114, 3) := by decide +kernel
theorem dX0_turn_29 : decode cX0_turn 29 = .ok (.athrow, 1) := by decide +kernel
theorem dX0_turn_30 : decode cX0_turn 30 = .ok (.aload_n 0, 1) := by decide +kernel
theorem dX0_turn_31 : decode cX0_turn 31 = .ok (.iload_n 1, 1) := by decide +kernel
theorem dX0_turn_32 : decode cX0_turn 32 = .ok (.iload_n 2, 1) := by decide +kernel
theorem dX0_turn_33 : decode cX0_turn 33 = .ok (.invokevirtual 140, 3) := by decide +kernel
theorem dX0_turn_36 : decode cX0_turn 36 = .ok (.aload_n 0, 1) := by decide +kernel
theorem dX0_turn_37 : decode cX0_turn 37 = .ok (.getfield 41, 3) := by decide +kernel
theorem dX0_turn_40 : decode cX0_turn 40 = .ok (.iload_n 1, 1) := by decide +kernel
theorem dX0_turn_41 : decode cX0_turn 41 = .ok (.invokestatic 100, 3) := by decide +kernel
theorem dX0_turn_44 : decode cX0_turn 44 = .ok (.ireturn, 1) := by decide +kernel
set_option maxRecDepth 20000 in
theorem ggX0_goBack_X0_requireStudent : GoodIn wsX0_goBack wsX0_requireStudent := goodIn_ca (goodIn_r _ [9, 10, 11, 12, 24, 25, 26, 27, 28, 29, 30, 31, 32, 33, 34, 35, 36, 37, 38, 39, 40, 41] (by decide +kernel) (by decide +kernel)) (goodIn_sub (fun _ h => List.mem_cons_of_mem _ (List.mem_append_right _ h)) (by decide +kernel))
set_option maxRecDepth 20000 in
theorem gX0_goBack_X0_requireStudent : GoodIn wsX0_goBack (wsV RX0 132 RX0 yX0_requireStudent wsX0_requireStudent) := goodIn_app (goodIn_of _ (by decide +kernel)) ggX0_goBack_X0_requireStudent
set_option maxRecDepth 20000 in
theorem ggX0_goBack_X0_at : GoodIn wsX0_goBack wsX0_at := goodIn_r _ [15] (by decide +kernel) (by decide +kernel)
set_option maxRecDepth 20000 in
theorem gX0_goBack_X0_at : GoodIn wsX0_goBack (va_wsS RX0 100 yX0_at wsX0_at) := goodIn_app (goodIn_of _ (by decide +kernel)) ggX0_goBack_X0_at
set_option maxRecDepth 20000 in
theorem ggX0_goBack_X0_passedFork : GoodIn wsX0_goBack wsX0_passedFork := goodIn_r _ [19, 20, 13, 14, 8, 15, 24, 25, 26, 27, 28, 29, 30, 31, 32, 33, 34, 35, 36, 37, 38, 39, 40, 41] (by decide +kernel) (by decide +kernel)
set_option maxRecDepth 20000 in
theorem gX0_goBack_X0_passedFork : GoodIn wsX0_goBack (wsV RX0 146 RX0 yX0_passedFork wsX0_passedFork) := goodIn_app (goodIn_of _ (by decide +kernel)) ggX0_goBack_X0_passedFork
set_option maxRecDepth 20000 in
theorem ggX0_goBack_X0_put : GoodIn wsX0_goBack wsX0_put := goodIn_r _ [23] (by decide +kernel) (by decide +kernel)
set_option maxRecDepth 20000 in
theorem gX0_goBack_X0_put : GoodIn wsX0_goBack (va_wsS RX0 72 yX0_put wsX0_put) := goodIn_app (goodIn_of _ (by decide +kernel)) ggX0_goBack_X0_put
theorem dX0_goBack_0 : decode cX0_goBack 0 = .ok (.aload_n 0, 1) := by decide +kernel
theorem dX0_goBack_1 : decode cX0_goBack 1 = .ok (.iload_n 1, 1) := by decide +kernel
theorem dX0_goBack_2 : decode cX0_goBack 2 = .ok (.invokevirtual 132, 3) := by decide +kernel
theorem dX0_goBack_5 : decode cX0_goBack 5 = .ok (.aload_n 0, 1) := by decide +kernel
theorem dX0_goBack_6 : decode cX0_goBack 6 = .ok (.getfield 44, 3) := by decide +kernel
theorem dX0_goBack_9 : decode cX0_goBack 9 = .ok (.iload_n 1, 1) := by decide +kernel
theorem dX0_goBack_10 : decode cX0_goBack 10 = .ok (.invokestatic 100, 3) := by decide +kernel
theorem dX0_goBack_13 : decode cX0_goBack 13 = .ok (.iconst 1, 1) := by decide +kernel
theorem dX0_goBack_14 : decode cX0_goBack 14 = .ok (.isub, 1) := by decide +kernel
theorem dX0_goBack_15 : decode cX0_goBack 15 = .ok (.istore_n 2, 1) := by decide +kernel
theorem dX0_goBack_16 : decode cX0_goBack 16 = .ok (.iload_n 2, 1) := by decide +kernel
theorem dX0_goBack_17 : decode cX0_goBack 17 = .ok (.ifCond .ge 13, 3) := by decide +kernel
theorem dX0_goBack_20 : decode cX0_goBack 20 = .ok (.new 110, 3) := by decide +kernel
theorem dX0_goBack_23 : decode cX0_goBack 23 = .ok (.dup, 1) := by decide +kernel
theorem dX0_goBack_24 : decode cX0_goBack 24 = .ok (.ldc 144, 2) := by decide +kernel
theorem dX0_goBack_26 : decode cX0_goBack 26 = .ok (.invokespecial 114, 3) := by decide +kernel
theorem dX0_goBack_29 : decode cX0_goBack 29 = .ok (.athrow, 1) := by decide +kernel
theorem dX0_goBack_30 : decode cX0_goBack 30 = .ok (.aload_n 0, 1) := by decide +kernel
theorem dX0_goBack_31 : decode cX0_goBack 31 = .ok (.iload_n 1, 1) := by decide +kernel
theorem dX0_goBack_32 : decode cX0_goBack 32 = .ok (.iload_n 2, 1) := by decide +kernel
theorem dX0_goBack_33 : decode cX0_goBack 33 = .ok (.invokevirtual 146, 3) := by decide +kernel
theorem dX0_goBack_36 : decode cX0_goBack 36 = .ok (.istore_n 3, 1) := by decide +kernel
theorem dX0_goBack_37 : decode cX0_goBack 37 = .ok (.aload_n 0, 1) := by decide +kernel
theorem dX0_goBack_38 : decode cX0_goBack 38 = .ok (.getfield 41, 3) := by decide +kernel
theorem dX0_goBack_41 : decode cX0_goBack 41 = .ok (.iload_n 1, 1) := by decide +kernel
theorem dX0_goBack_42 : decode cX0_goBack 42 = .ok (.iload_n 3, 1) := by decide +kernel
theorem dX0_goBack_43 : decode cX0_goBack 43 = .ok (.invokestatic 72, 3) := by decide +kernel
theorem dX0_goBack_46 : decode cX0_goBack 46 = .ok (.aload_n 0, 1) := by decide +kernel
theorem dX0_goBack_47 : decode cX0_goBack 47 = .ok (.getfield 44, 3) := by decide +kernel
theorem dX0_goBack_50 : decode cX0_goBack 50 = .ok (.iload_n 1, 1) := by decide +kernel
theorem dX0_goBack_51 : decode cX0_goBack 51 = .ok (.iload_n 2, 1) := by decide +kernel
theorem dX0_goBack_52 : decode cX0_goBack 52 = .ok (.invokestatic 72, 3) := by decide +kernel
theorem dX0_goBack_55 : decode cX0_goBack 55 = .ok (.iload_n 3, 1) := by decide +kernel
theorem dX0_goBack_56 : decode cX0_goBack 56 = .ok (.ireturn, 1) := by decide +kernel
set_option maxRecDepth 20000 in
theorem ggX0_follow_X0_requireStudent : GoodIn wsX0_follow wsX0_requireStudent := goodIn_ca (goodIn_r _ [6, 7, 8, 9, 51, 52, 53, 54, 55, 56, 57, 58, 59, 60, 61, 62, 63, 64, 65, 66, 67, 68] (by decide +kernel) (by decide +kernel)) (goodIn_sub (fun _ h => List.mem_cons_of_mem _ (List.mem_append_right _ h)) (by decide +kernel))
set_option maxRecDepth 20000 in
theorem gX0_follow_X0_requireStudent : GoodIn wsX0_follow (wsV RX0 132 RX0 yX0_requireStudent wsX0_requireStudent) := goodIn_app (goodIn_of _ (by decide +kernel)) ggX0_follow_X0_requireStudent
set_option maxRecDepth 20000 in
theorem ggX0_follow_X0_at : GoodIn wsX0_follow wsX0_at := goodIn_r _ [12] (by decide +kernel) (by decide +kernel)
set_option maxRecDepth 20000 in
theorem gX0_follow_X0_at : GoodIn wsX0_follow (va_wsS RX0 100 yX0_at wsX0_at) := goodIn_app (goodIn_of _ (by decide +kernel)) ggX0_follow_X0_at
set_option maxRecDepth 20000 in
theorem ggX0_follow_X0_holdsExam : GoodIn wsX0_follow wsX0_holdsExam := goodIn_r _ [16, 17, 18, 19, 5, 20, 51, 52, 53, 54, 55, 56, 57, 58, 59, 60, 61, 62, 63, 64, 65, 66, 67, 68] (by decide +kernel) (by decide +kernel)
set_option maxRecDepth 20000 in
theorem gX0_follow_X0_holdsExam : GoodIn wsX0_follow (wsV RX0 135 RX0 yX0_holdsExam wsX0_holdsExam) := goodIn_app (goodIn_of _ (by decide +kernel)) ggX0_follow_X0_holdsExam
set_option maxRecDepth 20000 in
theorem ggX0_follow_X0_plansRight : GoodIn wsX0_follow wsX0_plansRight := goodIn_r _ [24, 25, 26, 27, 5, 28, 29, 30, 31, 32, 33, 34, 35, 36, 37, 38, 39, 40, 41, 10, 11, 12, 51, 52, 53, 54, 55, 56, 57, 58, 59, 60, 61, 62, 63, 64, 65, 66, 67, 68] (by decide +kernel) (by decide +kernel)
set_option maxRecDepth 20000 in
theorem gX0_follow_X0_plansRight : GoodIn wsX0_follow (wsV RX0 150 RX0 yX0_plansRight wsX0_plansRight) := goodIn_app (goodIn_of _ (by decide +kernel)) ggX0_follow_X0_plansRight
set_option maxRecDepth 20000 in
theorem ggX0_follow_X0_walk : GoodIn wsX0_follow wsX0_walk := goodIn_r _ [45, 1, 46, 47, 10, 11, 5, 12, 48, 49, 50, 36, 37, 38, 39, 40, 41, 51, 52, 53, 54, 55, 56, 57, 58, 59, 60, 61, 62, 63, 64, 65, 66, 67, 68] (by decide +kernel) (by decide +kernel)
set_option maxRecDepth 20000 in
theorem gX0_follow_X0_walk : GoodIn wsX0_follow (wsV RX0 140 RX0 yX0_walk wsX0_walk) := goodIn_app (goodIn_of _ (by decide +kernel)) ggX0_follow_X0_walk
theorem dX0_follow_0 : decode cX0_follow 0 = .ok (.aload_n 0, 1) := by decide +kernel
theorem dX0_follow_1 : decode cX0_follow 1 = .ok (.iload_n 1, 1) := by decide +kernel
theorem dX0_follow_2 : decode cX0_follow 2 = .ok (.invokevirtual 132, 3) := by decide +kernel
theorem dX0_follow_5 : decode cX0_follow 5 = .ok (.iconst 0, 1) := by decide +kernel
theorem dX0_follow_6 : decode cX0_follow 6 = .ok (.istore_n 2, 1) := by decide +kernel
theorem dX0_follow_7 : decode cX0_follow 7 = .ok (.iload_n 2, 1) := by decide +kernel
theorem dX0_follow_8 : decode cX0_follow 8 = .ok (.bipush 40, 2) := by decide +kernel
theorem dX0_follow_10 : decode cX0_follow 10 = .ok (.if_icmp .ge 41, 3) := by decide +kernel
theorem dX0_follow_13 : decode cX0_follow 13 = .ok (.aload_n 0, 1) := by decide +kernel
theorem dX0_follow_14 : decode cX0_follow 14 = .ok (.aload_n 0, 1) := by decide +kernel
theorem dX0_follow_15 : decode cX0_follow 15 = .ok (.getfield 41, 3) := by decide +kernel
theorem dX0_follow_18 : decode cX0_follow 18 = .ok (.iload_n 1, 1) := by decide +kernel
theorem dX0_follow_19 : decode cX0_follow 19 = .ok (.invokestatic 100, 3) := by decide +kernel
theorem dX0_follow_22 : decode cX0_follow 22 = .ok (.invokevirtual 135, 3) := by decide +kernel
theorem dX0_follow_25 : decode cX0_follow 25 = .ok (.ifCond .ne 26, 3) := by decide +kernel
theorem dX0_follow_28 : decode cX0_follow 28 = .ok (.aload_n 0, 1) := by decide +kernel
theorem dX0_follow_29 : decode cX0_follow 29 = .ok (.iload_n 1, 1) := by decide +kernel
theorem dX0_follow_30 : decode cX0_follow 30 = .ok (.aload_n 0, 1) := by decide +kernel
theorem dX0_follow_31 : decode cX0_follow 31 = .ok (.aload_n 0, 1) := by decide +kernel
theorem dX0_follow_32 : decode cX0_follow 32 = .ok (.getfield 41, 3) := by decide +kernel
theorem dX0_follow_35 : decode cX0_follow 35 = .ok (.iload_n 1, 1) := by decide +kernel
theorem dX0_follow_36 : decode cX0_follow 36 = .ok (.invokestatic 100, 3) := by decide +kernel
theorem dX0_follow_39 : decode cX0_follow 39 = .ok (.invokevirtual 150, 3) := by decide +kernel
theorem dX0_follow_42 : decode cX0_follow 42 = .ok (.invokevirtual 140, 3) := by decide +kernel
theorem dX0_follow_45 : decode cX0_follow 45 = .ok (.iinc 2 1, 3) := by decide +kernel
theorem dX0_follow_48 : decode cX0_follow 48 = .ok (.goto (-41), 3) := by decide +kernel
theorem dX0_follow_51 : decode cX0_follow 51 = .ok (.iload_n 2, 1) := by decide +kernel
theorem dX0_follow_52 : decode cX0_follow 52 = .ok (.ireturn, 1) := by decide +kernel
theorem dX0_places_0 : decode cX0_places 0 = .ok (.aload_n 0, 1) := by decide +kernel
theorem dX0_places_1 : decode cX0_places 1 = .ok (.getfield 60, 3) := by decide +kernel
theorem dX0_places_4 : decode cX0_places 4 = .ok (.ireturn, 1) := by decide +kernel
set_option maxRecDepth 20000 in
theorem ggX0_exams_J13_bitCount_95d88 : GoodIn wsX0_exams wsJ13_bitCount_95d88 := goodIn_r _ [5, 6, 7, 8] (by decide +kernel) (by decide +kernel)
set_option maxRecDepth 20000 in
theorem gX0_exams_J13_bitCount_95d88 : GoodIn wsX0_exams (va_wsS RX0 153 yJ13_bitCount_95d88 wsJ13_bitCount_95d88) := goodIn_app (goodIn_of _ (by decide +kernel)) ggX0_exams_J13_bitCount_95d88
theorem dX0_exams_0 : decode cX0_exams 0 = .ok (.aload_n 0, 1) := by decide +kernel
theorem dX0_exams_1 : decode cX0_exams 1 = .ok (.getfield 64, 3) := by decide +kernel
theorem dX0_exams_4 : decode cX0_exams 4 = .ok (.invokestatic 153, 3) := by decide +kernel
theorem dX0_exams_7 : decode cX0_exams 7 = .ok (.ireturn, 1) := by decide +kernel
theorem dX0_graded_0 : decode cX0_graded 0 = .ok (.aload_n 0, 1) := by decide +kernel
theorem dX0_graded_1 : decode cX0_graded 1 = .ok (.getfield 115, 3) := by decide +kernel
theorem dX0_graded_4 : decode cX0_graded 4 = .ok (.ireturn, 1) := by decide +kernel
theorem dX0_students_0 : decode cX0_students 0 = .ok (.aload_n 0, 1) := by decide +kernel
theorem dX0_students_1 : decode cX0_students 1 = .ok (.getfield 127, 3) := by decide +kernel
theorem dX0_students_4 : decode cX0_students 4 = .ok (.ireturn, 1) := by decide +kernel
set_option maxRecDepth 20000 in
theorem ggX0_atExams_X0_at : GoodIn wsX0_atExams wsX0_at := goodIn_r _ [6] (by decide +kernel) (by decide +kernel)
set_option maxRecDepth 20000 in
theorem gX0_atExams_X0_at : GoodIn wsX0_atExams (va_wsS RX0 100 yX0_at wsX0_at) := goodIn_app (goodIn_of _ (by decide +kernel)) ggX0_atExams_X0_at
set_option maxRecDepth 20000 in
theorem ggX0_atExams_X0_holdsExam : GoodIn wsX0_atExams wsX0_holdsExam := goodIn_r _ [10, 11, 12, 13, 5, 14, 15, 16, 17, 18, 19, 20, 21, 22, 23, 24, 25, 26, 27, 28, 29, 30, 31, 32] (by decide +kernel) (by decide +kernel)
set_option maxRecDepth 20000 in
theorem gX0_atExams_X0_holdsExam : GoodIn wsX0_atExams (wsV RX0 135 RX0 yX0_holdsExam wsX0_holdsExam) := goodIn_app (goodIn_of _ (by decide +kernel)) ggX0_atExams_X0_holdsExam
theorem dX0_atExams_0 : decode cX0_atExams 0 = .ok (.iconst 0, 1) := by decide +kernel
theorem dX0_atExams_1 : decode cX0_atExams 1 = .ok (.istore_n 1, 1) := by decide +kernel
theorem dX0_atExams_2 : decode cX0_atExams 2 = .ok (.iconst 0, 1) := by decide +kernel
theorem dX0_atExams_3 : decode cX0_atExams 3 = .ok (.istore_n 2, 1) := by decide +kernel
theorem dX0_atExams_4 : decode cX0_atExams 4 = .ok (.iload_n 2, 1) := by decide +kernel
theorem dX0_atExams_5 : decode cX0_atExams 5 = .ok (.aload_n 0, 1) := by decide +kernel
theorem dX0_atExams_6 : decode cX0_atExams 6 = .ok (.getfield 127, 3) := by decide +kernel
theorem dX0_atExams_9 : decode cX0_atExams 9 = .ok (.if_icmp .ge 27, 3) := by decide +kernel
theorem dX0_atExams_12 : decode cX0_atExams 12 = .ok (.aload_n 0, 1) := by decide +kernel
theorem dX0_atExams_13 : decode cX0_atExams 13 = .ok (.aload_n 0, 1) := by decide +kernel
theorem dX0_atExams_14 : decode cX0_atExams 14 = .ok (.getfield 41, 3) := by decide +kernel
theorem dX0_atExams_17 : decode cX0_atExams 17 = .ok (.iload_n 2, 1) := by decide +kernel
theorem dX0_atExams_18 : decode cX0_atExams 18 = .ok (.invokestatic 100, 3) := by decide +kernel
theorem dX0_atExams_21 : decode cX0_atExams 21 = .ok (.invokevirtual 135, 3) := by decide +kernel
theorem dX0_atExams_24 : decode cX0_atExams 24 = .ok (.ifCond .eq 6, 3) := by decide +kernel
theorem dX0_atExams_27 : decode cX0_atExams 27 = .ok (.iinc 1 1, 3) := by decide +kernel
theorem dX0_atExams_30 : decode cX0_atExams 30 = .ok (.iinc 2 1, 3) := by decide +kernel
theorem dX0_atExams_33 : decode cX0_atExams 33 = .ok (.goto (-29), 3) := by decide +kernel
theorem dX0_atExams_36 : decode cX0_atExams 36 = .ok (.iload_n 1, 1) := by decide +kernel
theorem dX0_atExams_37 : decode cX0_atExams 37 = .ok (.ireturn, 1) := by decide +kernel
set_option maxRecDepth 20000 in
theorem ggX0_isExam_X0_requirePlace : GoodIn wsX0_isExam wsX0_requirePlace := goodIn_ca (goodIn_r _ [5, 6, 7, 8, 17, 18, 19, 20, 21, 22, 23, 24, 25, 26, 27, 28, 29, 30, 31, 32, 33, 34] (by decide +kernel) (by decide +kernel)) (goodIn_sub (fun _ h => List.mem_cons_of_mem _ (List.mem_append_right _ h)) (by decide +kernel))
set_option maxRecDepth 20000 in
theorem gX0_isExam_X0_requirePlace : GoodIn wsX0_isExam (wsV RX0 84 RX0 yX0_requirePlace wsX0_requirePlace) := goodIn_app (goodIn_of _ (by decide +kernel)) ggX0_isExam_X0_requirePlace
set_option maxRecDepth 20000 in
theorem ggX0_isExam_X0_holdsExam : GoodIn wsX0_isExam wsX0_holdsExam := goodIn_r _ [12, 13, 14, 15, 4, 16, 17, 18, 19, 20, 21, 22, 23, 24, 25, 26, 27, 28, 29, 30, 31, 32, 33, 34] (by decide +kernel) (by decide +kernel)
set_option maxRecDepth 20000 in
theorem gX0_isExam_X0_holdsExam : GoodIn wsX0_isExam (wsV RX0 135 RX0 yX0_holdsExam wsX0_holdsExam) := goodIn_app (goodIn_of _ (by decide +kernel)) ggX0_isExam_X0_holdsExam
theorem dX0_isExam_0 : decode cX0_isExam 0 = .ok (.aload_n 0, 1) := by decide +kernel
theorem dX0_isExam_1 : decode cX0_isExam 1 = .ok (.iload_n 1, 1) := by decide +kernel
theorem dX0_isExam_2 : decode cX0_isExam 2 = .ok (.invokevirtual 84, 3) := by decide +kernel
theorem dX0_isExam_5 : decode cX0_isExam 5 = .ok (.aload_n 0, 1) := by decide +kernel
theorem dX0_isExam_6 : decode cX0_isExam 6 = .ok (.iload_n 1, 1) := by decide +kernel
theorem dX0_isExam_7 : decode cX0_isExam 7 = .ok (.invokevirtual 135, 3) := by decide +kernel
theorem dX0_isExam_10 : decode cX0_isExam 10 = .ok (.ireturn, 1) := by decide +kernel
set_option maxRecDepth 20000 in
theorem ggX0_isGraded_X0_requireExam : GoodIn wsX0_isGraded wsX0_requireExam := goodIn_ca (goodIn_r _ [5, 6, 7, 8, 9, 10, 4, 11, 12, 13, 14, 15, 16, 17, 18, 19, 20, 29, 30, 31, 32, 33, 34, 35, 36, 37, 38, 39, 40, 41, 42, 43, 44, 45, 46] (by decide +kernel) (by decide +kernel)) (goodIn_sub (fun _ h => List.mem_cons_of_mem _ (List.mem_append_right _ h)) (by decide +kernel))
set_option maxRecDepth 20000 in
theorem gX0_isGraded_X0_requireExam : GoodIn wsX0_isGraded (wsV RX0 97 RX0 yX0_requireExam wsX0_requireExam) := goodIn_app (goodIn_of _ (by decide +kernel)) ggX0_isGraded_X0_requireExam
set_option maxRecDepth 20000 in
theorem ggX0_isGraded_X0_hasGrade : GoodIn wsX0_isGraded wsX0_hasGrade := goodIn_r _ [24, 25, 26, 27, 4, 28, 29, 30, 31, 32, 33, 34, 35, 36, 37, 38, 39, 40, 41, 42, 43, 44, 45, 46] (by decide +kernel) (by decide +kernel)
set_option maxRecDepth 20000 in
theorem gX0_isGraded_X0_hasGrade : GoodIn wsX0_isGraded (wsV RX0 106 RX0 yX0_hasGrade wsX0_hasGrade) := goodIn_app (goodIn_of _ (by decide +kernel)) ggX0_isGraded_X0_hasGrade
theorem dX0_isGraded_0 : decode cX0_isGraded 0 = .ok (.aload_n 0, 1) := by decide +kernel
theorem dX0_isGraded_1 : decode cX0_isGraded 1 = .ok (.iload_n 1, 1) := by decide +kernel
theorem dX0_isGraded_2 : decode cX0_isGraded 2 = .ok (.invokevirtual 97, 3) := by decide +kernel
theorem dX0_isGraded_5 : decode cX0_isGraded 5 = .ok (.aload_n 0, 1) := by decide +kernel
theorem dX0_isGraded_6 : decode cX0_isGraded 6 = .ok (.iload_n 1, 1) := by decide +kernel
theorem dX0_isGraded_7 : decode cX0_isGraded 7 = .ok (.invokevirtual 106, 3) := by decide +kernel
theorem dX0_isGraded_10 : decode cX0_isGraded 10 = .ok (.ireturn, 1) := by decide +kernel
set_option maxRecDepth 20000 in
theorem ggX0_gradeOf_X0_requireExam : GoodIn wsX0_gradeOf wsX0_requireExam := goodIn_ca (goodIn_r _ [6, 7, 8, 9, 10, 11, 5, 12, 13, 14, 15, 16, 17, 18, 19, 20, 21, 25, 26, 27, 28, 29, 30, 31, 32, 33, 34, 35, 36, 37, 38, 39, 40, 41, 42] (by decide +kernel) (by decide +kernel)) (goodIn_sub (fun _ h => List.mem_cons_of_mem _ (List.mem_append_right _ h)) (by decide +kernel))
set_option maxRecDepth 20000 in
theorem gX0_gradeOf_X0_requireExam : GoodIn wsX0_gradeOf (wsV RX0 97 RX0 yX0_requireExam wsX0_requireExam) := goodIn_app (goodIn_of _ (by decide +kernel)) ggX0_gradeOf_X0_requireExam
set_option maxRecDepth 20000 in
theorem ggX0_gradeOf_X0_at : GoodIn wsX0_gradeOf wsX0_at := goodIn_r _ [24] (by decide +kernel) (by decide +kernel)
set_option maxRecDepth 20000 in
theorem gX0_gradeOf_X0_at : GoodIn wsX0_gradeOf (va_wsS RX0 100 yX0_at wsX0_at) := goodIn_app (goodIn_of _ (by decide +kernel)) ggX0_gradeOf_X0_at
theorem dX0_gradeOf_0 : decode cX0_gradeOf 0 = .ok (.aload_n 0, 1) := by decide +kernel
theorem dX0_gradeOf_1 : decode cX0_gradeOf 1 = .ok (.iload_n 1, 1) := by decide +kernel
theorem dX0_gradeOf_2 : decode cX0_gradeOf 2 = .ok (.invokevirtual 97, 3) := by decide +kernel
theorem dX0_gradeOf_5 : decode cX0_gradeOf 5 = .ok (.aload_n 0, 1) := by decide +kernel
theorem dX0_gradeOf_6 : decode cX0_gradeOf 6 = .ok (.getfield 25, 3) := by decide +kernel
theorem dX0_gradeOf_9 : decode cX0_gradeOf 9 = .ok (.iload_n 1, 1) := by decide +kernel
theorem dX0_gradeOf_10 : decode cX0_gradeOf 10 = .ok (.invokestatic 100, 3) := by decide +kernel
theorem dX0_gradeOf_13 : decode cX0_gradeOf 13 = .ok (.ireturn, 1) := by decide +kernel
set_option maxRecDepth 20000 in
theorem ggX0_leftOf_X0_requireFork : GoodIn wsX0_leftOf wsX0_requireFork := goodIn_ca (goodIn_r _ [6, 7, 8, 9, 10, 11, 5, 12, 13, 14, 15, 16, 17, 18, 19, 20, 21, 25, 26, 27, 28, 29, 30, 31, 32, 33, 34, 35, 36, 37, 38, 39, 40, 41, 42] (by decide +kernel) (by decide +kernel)) (goodIn_sub (fun _ h => List.mem_cons_of_mem _ (List.mem_append_right _ h)) (by decide +kernel))
set_option maxRecDepth 20000 in
theorem gX0_leftOf_X0_requireFork : GoodIn wsX0_leftOf (wsV RX0 124 RX0 yX0_requireFork wsX0_requireFork) := goodIn_app (goodIn_of _ (by decide +kernel)) ggX0_leftOf_X0_requireFork
set_option maxRecDepth 20000 in
theorem ggX0_leftOf_X0_at : GoodIn wsX0_leftOf wsX0_at := goodIn_r _ [24] (by decide +kernel) (by decide +kernel)
set_option maxRecDepth 20000 in
theorem gX0_leftOf_X0_at : GoodIn wsX0_leftOf (va_wsS RX0 100 yX0_at wsX0_at) := goodIn_app (goodIn_of _ (by decide +kernel)) ggX0_leftOf_X0_at
theorem dX0_leftOf_0 : decode cX0_leftOf 0 = .ok (.aload_n 0, 1) := by decide +kernel
theorem dX0_leftOf_1 : decode cX0_leftOf 1 = .ok (.iload_n 1, 1) := by decide +kernel
theorem dX0_leftOf_2 : decode cX0_leftOf 2 = .ok (.invokevirtual 124, 3) := by decide +kernel
theorem dX0_leftOf_5 : decode cX0_leftOf 5 = .ok (.aload_n 0, 1) := by decide +kernel
theorem dX0_leftOf_6 : decode cX0_leftOf 6 = .ok (.getfield 16, 3) := by decide +kernel
theorem dX0_leftOf_9 : decode cX0_leftOf 9 = .ok (.iload_n 1, 1) := by decide +kernel
theorem dX0_leftOf_10 : decode cX0_leftOf 10 = .ok (.invokestatic 100, 3) := by decide +kernel
theorem dX0_leftOf_13 : decode cX0_leftOf 13 = .ok (.ireturn, 1) := by decide +kernel
set_option maxRecDepth 20000 in
theorem ggX0_rightOf_X0_requireFork : GoodIn wsX0_rightOf wsX0_requireFork := goodIn_ca (goodIn_r _ [6, 7, 8, 9, 10, 11, 5, 12, 13, 14, 15, 16, 17, 18, 19, 20, 21, 25, 26, 27, 28, 29, 30, 31, 32, 33, 34, 35, 36, 37, 38, 39, 40, 41, 42] (by decide +kernel) (by decide +kernel)) (goodIn_sub (fun _ h => List.mem_cons_of_mem _ (List.mem_append_right _ h)) (by decide +kernel))
set_option maxRecDepth 20000 in
theorem gX0_rightOf_X0_requireFork : GoodIn wsX0_rightOf (wsV RX0 124 RX0 yX0_requireFork wsX0_requireFork) := goodIn_app (goodIn_of _ (by decide +kernel)) ggX0_rightOf_X0_requireFork
set_option maxRecDepth 20000 in
theorem ggX0_rightOf_X0_at : GoodIn wsX0_rightOf wsX0_at := goodIn_r _ [24] (by decide +kernel) (by decide +kernel)
set_option maxRecDepth 20000 in
theorem gX0_rightOf_X0_at : GoodIn wsX0_rightOf (va_wsS RX0 100 yX0_at wsX0_at) := goodIn_app (goodIn_of _ (by decide +kernel)) ggX0_rightOf_X0_at
theorem dX0_rightOf_0 : decode cX0_rightOf 0 = .ok (.aload_n 0, 1) := by decide +kernel
theorem dX0_rightOf_1 : decode cX0_rightOf 1 = .ok (.iload_n 1, 1) := by decide +kernel
theorem dX0_rightOf_2 : decode cX0_rightOf 2 = .ok (.invokevirtual 124, 3) := by decide +kernel
theorem dX0_rightOf_5 : decode cX0_rightOf 5 = .ok (.aload_n 0, 1) := by decide +kernel
theorem dX0_rightOf_6 : decode cX0_rightOf 6 = .ok (.getfield 19, 3) := by decide +kernel
theorem dX0_rightOf_9 : decode cX0_rightOf 9 = .ok (.iload_n 1, 1) := by decide +kernel
theorem dX0_rightOf_10 : decode cX0_rightOf 10 = .ok (.invokestatic 100, 3) := by decide +kernel
theorem dX0_rightOf_13 : decode cX0_rightOf 13 = .ok (.ireturn, 1) := by decide +kernel
set_option maxRecDepth 20000 in
theorem ggX0_weightOf_X0_requireFork : GoodIn wsX0_weightOf wsX0_requireFork := goodIn_ca (goodIn_r _ [6, 7, 8, 9, 10, 11, 5, 12, 13, 14, 15, 16, 17, 18, 19, 20, 21, 25, 26, 27, 28, 29, 30, 31, 32, 33, 34, 35, 36, 37, 38, 39, 40, 41, 42] (by decide +kernel) (by decide +kernel)) (goodIn_sub (fun _ h => List.mem_cons_of_mem _ (List.mem_append_right _ h)) (by decide +kernel))
set_option maxRecDepth 20000 in
theorem gX0_weightOf_X0_requireFork : GoodIn wsX0_weightOf (wsV RX0 124 RX0 yX0_requireFork wsX0_requireFork) := goodIn_app (goodIn_of _ (by decide +kernel)) ggX0_weightOf_X0_requireFork
set_option maxRecDepth 20000 in
theorem ggX0_weightOf_X0_at : GoodIn wsX0_weightOf wsX0_at := goodIn_r _ [24] (by decide +kernel) (by decide +kernel)
set_option maxRecDepth 20000 in
theorem gX0_weightOf_X0_at : GoodIn wsX0_weightOf (va_wsS RX0 100 yX0_at wsX0_at) := goodIn_app (goodIn_of _ (by decide +kernel)) ggX0_weightOf_X0_at
theorem dX0_weightOf_0 : decode cX0_weightOf 0 = .ok (.aload_n 0, 1) := by decide +kernel
theorem dX0_weightOf_1 : decode cX0_weightOf 1 = .ok (.iload_n 1, 1) := by decide +kernel
theorem dX0_weightOf_2 : decode cX0_weightOf 2 = .ok (.invokevirtual 124, 3) := by decide +kernel
theorem dX0_weightOf_5 : decode cX0_weightOf 5 = .ok (.aload_n 0, 1) := by decide +kernel
theorem dX0_weightOf_6 : decode cX0_weightOf 6 = .ok (.getfield 22, 3) := by decide +kernel
theorem dX0_weightOf_9 : decode cX0_weightOf 9 = .ok (.iload_n 1, 1) := by decide +kernel
theorem dX0_weightOf_10 : decode cX0_weightOf 10 = .ok (.invokestatic 100, 3) := by decide +kernel
theorem dX0_weightOf_13 : decode cX0_weightOf 13 = .ok (.ireturn, 1) := by decide +kernel
set_option maxRecDepth 20000 in
theorem ggX0_placeOf_X0_requireStudent : GoodIn wsX0_placeOf wsX0_requireStudent := goodIn_ca (goodIn_r _ [6, 7, 8, 9, 13, 14, 15, 16, 17, 18, 19, 20, 21, 22, 23, 24, 25, 26, 27, 28, 29, 30] (by decide +kernel) (by decide +kernel)) (goodIn_sub (fun _ h => List.mem_cons_of_mem _ (List.mem_append_right _ h)) (by decide +kernel))
set_option maxRecDepth 20000 in
theorem gX0_placeOf_X0_requireStudent : GoodIn wsX0_placeOf (wsV RX0 132 RX0 yX0_requireStudent wsX0_requireStudent) := goodIn_app (goodIn_of _ (by decide +kernel)) ggX0_placeOf_X0_requireStudent
set_option maxRecDepth 20000 in
theorem ggX0_placeOf_X0_at : GoodIn wsX0_placeOf wsX0_at := goodIn_r _ [12] (by decide +kernel) (by decide +kernel)
set_option maxRecDepth 20000 in
theorem gX0_placeOf_X0_at : GoodIn wsX0_placeOf (va_wsS RX0 100 yX0_at wsX0_at) := goodIn_app (goodIn_of _ (by decide +kernel)) ggX0_placeOf_X0_at
theorem dX0_placeOf_0 : decode cX0_placeOf 0 = .ok (.aload_n 0, 1) := by decide +kernel
theorem dX0_placeOf_1 : decode cX0_placeOf 1 = .ok (.iload_n 1, 1) := by decide +kernel
theorem dX0_placeOf_2 : decode cX0_placeOf 2 = .ok (.invokevirtual 132, 3) := by decide +kernel
theorem dX0_placeOf_5 : decode cX0_placeOf 5 = .ok (.aload_n 0, 1) := by decide +kernel
theorem dX0_placeOf_6 : decode cX0_placeOf 6 = .ok (.getfield 41, 3) := by decide +kernel
theorem dX0_placeOf_9 : decode cX0_placeOf 9 = .ok (.iload_n 1, 1) := by decide +kernel
theorem dX0_placeOf_10 : decode cX0_placeOf 10 = .ok (.invokestatic 100, 3) := by decide +kernel
theorem dX0_placeOf_13 : decode cX0_placeOf 13 = .ok (.ireturn, 1) := by decide +kernel
set_option maxRecDepth 20000 in
theorem ggX0_passedBy_X0_requireStudent : GoodIn wsX0_passedBy wsX0_requireStudent := goodIn_ca (goodIn_r _ [6, 7, 8, 9, 13, 14, 15, 16, 17, 18, 19, 20, 21, 22, 23, 24, 25, 26, 27, 28, 29, 30] (by decide +kernel) (by decide +kernel)) (goodIn_sub (fun _ h => List.mem_cons_of_mem _ (List.mem_append_right _ h)) (by decide +kernel))
set_option maxRecDepth 20000 in
theorem gX0_passedBy_X0_requireStudent : GoodIn wsX0_passedBy (wsV RX0 132 RX0 yX0_requireStudent wsX0_requireStudent) := goodIn_app (goodIn_of _ (by decide +kernel)) ggX0_passedBy_X0_requireStudent
set_option maxRecDepth 20000 in
theorem ggX0_passedBy_X0_at : GoodIn wsX0_passedBy wsX0_at := goodIn_r _ [12] (by decide +kernel) (by decide +kernel)
set_option maxRecDepth 20000 in
theorem gX0_passedBy_X0_at : GoodIn wsX0_passedBy (va_wsS RX0 100 yX0_at wsX0_at) := goodIn_app (goodIn_of _ (by decide +kernel)) ggX0_passedBy_X0_at
theorem dX0_passedBy_0 : decode cX0_passedBy 0 = .ok (.aload_n 0, 1) := by decide +kernel
theorem dX0_passedBy_1 : decode cX0_passedBy 1 = .ok (.iload_n 1, 1) := by decide +kernel
theorem dX0_passedBy_2 : decode cX0_passedBy 2 = .ok (.invokevirtual 132, 3) := by decide +kernel
theorem dX0_passedBy_5 : decode cX0_passedBy 5 = .ok (.aload_n 0, 1) := by decide +kernel
theorem dX0_passedBy_6 : decode cX0_passedBy 6 = .ok (.getfield 44, 3) := by decide +kernel
theorem dX0_passedBy_9 : decode cX0_passedBy 9 = .ok (.iload_n 1, 1) := by decide +kernel
theorem dX0_passedBy_10 : decode cX0_passedBy 10 = .ok (.invokestatic 100, 3) := by decide +kernel
theorem dX0_passedBy_13 : decode cX0_passedBy 13 = .ok (.ireturn, 1) := by decide +kernel
set_option maxRecDepth 20000 in
theorem ggX0_sureGrade_X0_requirePlace : GoodIn wsX0_sureGrade wsX0_requirePlace := goodIn_ca (goodIn_r _ [6, 7, 8, 9, 13, 14, 15, 16, 17, 18, 19, 20, 21, 22, 23, 24, 25, 26, 27, 28, 29, 30] (by decide +kernel) (by decide +kernel)) (goodIn_sub (fun _ h => List.mem_cons_of_mem _ (List.mem_append_right _ h)) (by decide +kernel))
set_option maxRecDepth 20000 in
theorem gX0_sureGrade_X0_requirePlace : GoodIn wsX0_sureGrade (wsV RX0 84 RX0 yX0_requirePlace wsX0_requirePlace) := goodIn_app (goodIn_of _ (by decide +kernel)) ggX0_sureGrade_X0_requirePlace
set_option maxRecDepth 20000 in
theorem ggX0_sureGrade_X0_at : GoodIn wsX0_sureGrade wsX0_at := goodIn_r _ [12] (by decide +kernel) (by decide +kernel)
set_option maxRecDepth 20000 in
theorem gX0_sureGrade_X0_at : GoodIn wsX0_sureGrade (va_wsS RX0 100 yX0_at wsX0_at) := goodIn_app (goodIn_of _ (by decide +kernel)) ggX0_sureGrade_X0_at
theorem dX0_sureGrade_0 : decode cX0_sureGrade 0 = .ok (.aload_n 0, 1) := by decide +kernel
theorem dX0_sureGrade_1 : decode cX0_sureGrade 1 = .ok (.iload_n 1, 1) := by decide +kernel
theorem dX0_sureGrade_2 : decode cX0_sureGrade 2 = .ok (.invokevirtual 84, 3) := by decide +kernel
theorem dX0_sureGrade_5 : decode cX0_sureGrade 5 = .ok (.aload_n 0, 1) := by decide +kernel
theorem dX0_sureGrade_6 : decode cX0_sureGrade 6 = .ok (.getfield 28, 3) := by decide +kernel
theorem dX0_sureGrade_9 : decode cX0_sureGrade 9 = .ok (.iload_n 1, 1) := by decide +kernel
theorem dX0_sureGrade_10 : decode cX0_sureGrade 10 = .ok (.invokestatic 100, 3) := by decide +kernel
theorem dX0_sureGrade_13 : decode cX0_sureGrade 13 = .ok (.ireturn, 1) := by decide +kernel
set_option maxRecDepth 20000 in
theorem ggX0_hope_X0_requirePlace : GoodIn wsX0_hope wsX0_requirePlace := goodIn_ca (goodIn_r _ [6, 7, 8, 9, 13, 14, 15, 16, 17, 18, 19, 20, 21, 22, 23, 24, 25, 26, 27, 28, 29, 30] (by decide +kernel) (by decide +kernel)) (goodIn_sub (fun _ h => List.mem_cons_of_mem _ (List.mem_append_right _ h)) (by decide +kernel))
set_option maxRecDepth 20000 in
theorem gX0_hope_X0_requirePlace : GoodIn wsX0_hope (wsV RX0 84 RX0 yX0_requirePlace wsX0_requirePlace) := goodIn_app (goodIn_of _ (by decide +kernel)) ggX0_hope_X0_requirePlace
set_option maxRecDepth 20000 in
theorem ggX0_hope_X0_at : GoodIn wsX0_hope wsX0_at := goodIn_r _ [12] (by decide +kernel) (by decide +kernel)
set_option maxRecDepth 20000 in
theorem gX0_hope_X0_at : GoodIn wsX0_hope (va_wsS RX0 100 yX0_at wsX0_at) := goodIn_app (goodIn_of _ (by decide +kernel)) ggX0_hope_X0_at
theorem dX0_hope_0 : decode cX0_hope 0 = .ok (.aload_n 0, 1) := by decide +kernel
theorem dX0_hope_1 : decode cX0_hope 1 = .ok (.iload_n 1, 1) := by decide +kernel
theorem dX0_hope_2 : decode cX0_hope 2 = .ok (.invokevirtual 84, 3) := by decide +kernel
theorem dX0_hope_5 : decode cX0_hope 5 = .ok (.aload_n 0, 1) := by decide +kernel
theorem dX0_hope_6 : decode cX0_hope 6 = .ok (.getfield 31, 3) := by decide +kernel
theorem dX0_hope_9 : decode cX0_hope 9 = .ok (.iload_n 1, 1) := by decide +kernel
theorem dX0_hope_10 : decode cX0_hope 10 = .ok (.invokestatic 100, 3) := by decide +kernel
theorem dX0_hope_13 : decode cX0_hope 13 = .ok (.ireturn, 1) := by decide +kernel
set_option maxRecDepth 20000 in
theorem ggX0_reaches_X0_requirePlace : GoodIn wsX0_reaches wsX0_requirePlace := goodIn_ca (goodIn_r _ [6, 7, 8, 9, 16, 17, 18, 19, 20, 21, 22, 23, 24, 25, 26, 27, 28, 29, 30, 31, 32, 33] (by decide +kernel) (by decide +kernel)) (goodIn_sub (fun _ h => List.mem_cons_of_mem _ (List.mem_append_right _ h)) (by decide +kernel))
set_option maxRecDepth 20000 in
theorem gX0_reaches_X0_requirePlace : GoodIn wsX0_reaches (wsV RX0 84 RX0 yX0_requirePlace wsX0_requirePlace) := goodIn_app (goodIn_of _ (by decide +kernel)) ggX0_reaches_X0_requirePlace
set_option maxRecDepth 20000 in
theorem ggX0_reaches_X0_bitsAt : GoodIn wsX0_reaches wsX0_bitsAt := goodIn_r _ [12] (by decide +kernel) (by decide +kernel)
set_option maxRecDepth 20000 in
theorem gX0_reaches_X0_bitsAt : GoodIn wsX0_reaches (va_wsS RX0 90 yX0_bitsAt wsX0_bitsAt) := goodIn_app (goodIn_of _ (by decide +kernel)) ggX0_reaches_X0_bitsAt
set_option maxRecDepth 20000 in
theorem ggX0_reaches_X0_bitOf : GoodIn wsX0_reaches wsX0_bitOf := goodIn_r _ [15] (by decide +kernel) (by decide +kernel)
set_option maxRecDepth 20000 in
theorem gX0_reaches_X0_bitOf : GoodIn wsX0_reaches (va_wsS RX0 68 yX0_bitOf wsX0_bitOf) := goodIn_app (goodIn_of _ (by decide +kernel)) ggX0_reaches_X0_bitOf
theorem dX0_reaches_0 : decode cX0_reaches 0 = .ok (.aload_n 0, 1) := by decide +kernel
theorem dX0_reaches_1 : decode cX0_reaches 1 = .ok (.iload_n 1, 1) := by decide +kernel
theorem dX0_reaches_2 : decode cX0_reaches 2 = .ok (.invokevirtual 84, 3) := by decide +kernel
theorem dX0_reaches_5 : decode cX0_reaches 5 = .ok (.aload_n 0, 1) := by decide +kernel
theorem dX0_reaches_6 : decode cX0_reaches 6 = .ok (.iload_n 2, 1) := by decide +kernel
theorem dX0_reaches_7 : decode cX0_reaches 7 = .ok (.invokevirtual 84, 3) := by decide +kernel
theorem dX0_reaches_10 : decode cX0_reaches 10 = .ok (.aload_n 0, 1) := by decide +kernel
theorem dX0_reaches_11 : decode cX0_reaches 11 = .ok (.getfield 37, 3) := by decide +kernel
theorem dX0_reaches_14 : decode cX0_reaches 14 = .ok (.iload_n 1, 1) := by decide +kernel
theorem dX0_reaches_15 : decode cX0_reaches 15 = .ok (.invokestatic 90, 3) := by decide +kernel
theorem dX0_reaches_18 : decode cX0_reaches 18 = .ok (.iload_n 2, 1) := by decide +kernel
theorem dX0_reaches_19 : decode cX0_reaches 19 = .ok (.invokestatic 68, 3) := by decide +kernel
theorem dX0_reaches_22 : decode cX0_reaches 22 = .ok (.land, 1) := by decide +kernel
theorem dX0_reaches_23 : decode cX0_reaches 23 = .ok (.lconst 0, 1) := by decide +kernel
theorem dX0_reaches_24 : decode cX0_reaches 24 = .ok (.lcmp, 1) := by decide +kernel
theorem dX0_reaches_25 : decode cX0_reaches 25 = .ok (.ifCond .eq 7, 3) := by decide +kernel
theorem dX0_reaches_28 : decode cX0_reaches 28 = .ok (.iconst 1, 1) := by decide +kernel
theorem dX0_reaches_29 : decode cX0_reaches 29 = .ok (.goto 4, 3) := by decide +kernel
theorem dX0_reaches_32 : decode cX0_reaches 32 = .ok (.iconst 0, 1) := by decide +kernel
theorem dX0_reaches_33 : decode cX0_reaches 33 = .ok (.ireturn, 1) := by decide +kernel
set_option maxRecDepth 20000 in
theorem ggX0_examsFrom_X0_requirePlace : GoodIn wsX0_examsFrom wsX0_requirePlace := goodIn_ca (goodIn_r _ [7, 8, 9, 10, 21, 22, 23, 24, 25, 26, 27, 28, 29, 30, 31, 32, 33, 34, 35, 36, 37, 38] (by decide +kernel) (by decide +kernel)) (goodIn_sub (fun _ h => List.mem_cons_of_mem _ (List.mem_append_right _ h)) (by decide +kernel))
set_option maxRecDepth 20000 in
theorem gX0_examsFrom_X0_requirePlace : GoodIn wsX0_examsFrom (wsV RX0 84 RX0 yX0_requirePlace wsX0_requirePlace) := goodIn_app (goodIn_of _ (by decide +kernel)) ggX0_examsFrom_X0_requirePlace
set_option maxRecDepth 20000 in
theorem ggX0_examsFrom_X0_bitsAt : GoodIn wsX0_examsFrom wsX0_bitsAt := goodIn_r _ [13] (by decide +kernel) (by decide +kernel)
set_option maxRecDepth 20000 in
theorem gX0_examsFrom_X0_bitsAt : GoodIn wsX0_examsFrom (va_wsS RX0 90 yX0_bitsAt wsX0_bitsAt) := goodIn_app (goodIn_of _ (by decide +kernel)) ggX0_examsFrom_X0_bitsAt
set_option maxRecDepth 20000 in
theorem ggX0_examsFrom_J13_bitCount_95d88 : GoodIn wsX0_examsFrom wsJ13_bitCount_95d88 := goodIn_r _ [17, 18, 19, 20] (by decide +kernel) (by decide +kernel)
set_option maxRecDepth 20000 in
theorem gX0_examsFrom_J13_bitCount_95d88 : GoodIn wsX0_examsFrom (va_wsS RX0 153 yJ13_bitCount_95d88 wsJ13_bitCount_95d88) := goodIn_app (goodIn_of _ (by decide +kernel)) ggX0_examsFrom_J13_bitCount_95d88
theorem dX0_examsFrom_0 : decode cX0_examsFrom 0 = .ok (.aload_n 0, 1) := by decide +kernel
theorem dX0_examsFrom_1 : decode cX0_examsFrom 1 = .ok (.iload_n 1, 1) := by decide +kernel
theorem dX0_examsFrom_2 : decode cX0_examsFrom 2 = .ok (.invokevirtual 84, 3) := by decide +kernel
theorem dX0_examsFrom_5 : decode cX0_examsFrom 5 = .ok (.aload_n 0, 1) := by decide +kernel
theorem dX0_examsFrom_6 : decode cX0_examsFrom 6 = .ok (.getfield 37, 3) := by decide +kernel
theorem dX0_examsFrom_9 : decode cX0_examsFrom 9 = .ok (.iload_n 1, 1) := by decide +kernel
theorem dX0_examsFrom_10 : decode cX0_examsFrom 10 = .ok (.invokestatic 90, 3) := by decide +kernel
theorem dX0_examsFrom_13 : decode cX0_examsFrom 13 = .ok (.aload_n 0, 1) := by decide +kernel
theorem dX0_examsFrom_14 : decode cX0_examsFrom 14 = .ok (.getfield 64, 3) := by decide +kernel
theorem dX0_examsFrom_17 : decode cX0_examsFrom 17 = .ok (.land, 1) := by decide +kernel
theorem dX0_examsFrom_18 : decode cX0_examsFrom 18 = .ok (.invokestatic 153, 3) := by decide +kernel
theorem dX0_examsFrom_21 : decode cX0_examsFrom 21 = .ok (.ireturn, 1) := by decide +kernel
set_option maxRecDepth 20000 in
theorem ggX0_risk_X0_requireFork : GoodIn wsX0_risk wsX0_requireFork := goodIn_ca (goodIn_r _ [5, 6, 7, 8, 9, 10, 4, 11, 12, 13, 14, 15, 16, 17, 18, 19, 20, 41, 42, 43, 44, 45, 46, 47, 48, 49, 50, 51, 52, 53, 54, 55, 56, 57, 58] (by decide +kernel) (by decide +kernel)) (goodIn_sub (fun _ h => List.mem_cons_of_mem _ (List.mem_append_right _ h)) (by decide +kernel))
set_option maxRecDepth 20000 in
theorem gX0_risk_X0_requireFork : GoodIn wsX0_risk (wsV RX0 124 RX0 yX0_requireFork wsX0_requireFork) := goodIn_app (goodIn_of _ (by decide +kernel)) ggX0_risk_X0_requireFork
set_option maxRecDepth 20000 in
theorem ggX0_risk_X0_riskOfPath : GoodIn wsX0_risk wsX0_riskOfPath := goodIn_r _ [24, 25, 26, 27, 28, 29, 30, 31, 32, 33, 34, 4, 35, 36, 37, 38, 39, 40, 41, 42, 43, 44, 45, 46, 47, 48, 49, 50, 51, 52, 53, 54, 55, 56, 57, 58] (by decide +kernel) (by decide +kernel)
set_option maxRecDepth 20000 in
theorem gX0_risk_X0_riskOfPath : GoodIn wsX0_risk (wsV RX0 159 RX0 yX0_riskOfPath wsX0_riskOfPath) := goodIn_app (goodIn_of _ (by decide +kernel)) ggX0_risk_X0_riskOfPath
theorem dX0_risk_0 : decode cX0_risk 0 = .ok (.aload_n 0, 1) := by decide +kernel
theorem dX0_risk_1 : decode cX0_risk 1 = .ok (.iload_n 1, 1) := by decide +kernel
theorem dX0_risk_2 : decode cX0_risk 2 = .ok (.invokevirtual 124, 3) := by decide +kernel
theorem dX0_risk_5 : decode cX0_risk 5 = .ok (.aload_n 0, 1) := by decide +kernel
theorem dX0_risk_6 : decode cX0_risk 6 = .ok (.iload_n 1, 1) := by decide +kernel
theorem dX0_risk_7 : decode cX0_risk 7 = .ok (.iload_n 2, 1) := by decide +kernel
theorem dX0_risk_8 : decode cX0_risk 8 = .ok (.invokevirtual 159, 3) := by decide +kernel
theorem dX0_risk_11 : decode cX0_risk 11 = .ok (.ireturn, 1) := by decide +kernel
set_option maxRecDepth 20000 in
theorem ggX0_planTurnsRight_X0_requireFork : GoodIn wsX0_planTurnsRight wsX0_requireFork := goodIn_ca (goodIn_r _ [5, 6, 7, 8, 9, 10, 4, 11, 12, 13, 14, 15, 16, 17, 18, 19, 20, 45, 46, 47, 48, 49, 50, 51, 52, 53, 54, 55, 56, 57, 58, 59, 60, 61, 62] (by decide +kernel) (by decide +kernel)) (goodIn_sub (fun _ h => List.mem_cons_of_mem _ (List.mem_append_right _ h)) (by decide +kernel))
set_option maxRecDepth 20000 in
theorem gX0_planTurnsRight_X0_requireFork : GoodIn wsX0_planTurnsRight (wsV RX0 124 RX0 yX0_requireFork wsX0_requireFork) := goodIn_app (goodIn_of _ (by decide +kernel)) ggX0_planTurnsRight_X0_requireFork
set_option maxRecDepth 20000 in
theorem ggX0_planTurnsRight_X0_plansRight : GoodIn wsX0_planTurnsRight wsX0_plansRight := goodIn_r _ [24, 25, 26, 27, 4, 28, 29, 30, 31, 32, 33, 34, 35, 36, 37, 38, 39, 40, 41, 42, 43, 44, 45, 46, 47, 48, 49, 50, 51, 52, 53, 54, 55, 56, 57, 58, 59, 60, 61, 62] (by decide +kernel) (by decide +kernel)
set_option maxRecDepth 20000 in
theorem gX0_planTurnsRight_X0_plansRight : GoodIn wsX0_planTurnsRight (wsV RX0 150 RX0 yX0_plansRight wsX0_plansRight) := goodIn_app (goodIn_of _ (by decide +kernel)) ggX0_planTurnsRight_X0_plansRight
theorem dX0_planTurnsRight_0 : decode cX0_planTurnsRight 0 = .ok (.aload_n 0, 1) := by decide +kernel
theorem dX0_planTurnsRight_1 : decode cX0_planTurnsRight 1 = .ok (.iload_n 1, 1) := by decide +kernel
theorem dX0_planTurnsRight_2 : decode cX0_planTurnsRight 2 = .ok (.invokevirtual 124, 3) := by decide +kernel
theorem dX0_planTurnsRight_5 : decode cX0_planTurnsRight 5 = .ok (.aload_n 0, 1) := by decide +kernel
theorem dX0_planTurnsRight_6 : decode cX0_planTurnsRight 6 = .ok (.iload_n 1, 1) := by decide +kernel
theorem dX0_planTurnsRight_7 : decode cX0_planTurnsRight 7 = .ok (.invokevirtual 150, 3) := by decide +kernel
theorem dX0_planTurnsRight_10 : decode cX0_planTurnsRight 10 = .ok (.ireturn, 1) := by decide +kernel
set_option maxRecDepth 20000 in
theorem ggX0_planLeadsTo_X0_requirePlace : GoodIn wsX0_planLeadsTo wsX0_requirePlace := goodIn_ca (goodIn_r _ [5, 6, 7, 8, 41, 42, 43, 44, 45, 46, 47, 48, 49, 50, 51, 52, 53, 54, 55, 56, 57, 58] (by decide +kernel) (by decide +kernel)) (goodIn_sub (fun _ h => List.mem_cons_of_mem _ (List.mem_append_right _ h)) (by decide +kernel))
set_option maxRecDepth 20000 in
theorem gX0_planLeadsTo_X0_requirePlace : GoodIn wsX0_planLeadsTo (wsV RX0 84 RX0 yX0_requirePlace wsX0_requirePlace) := goodIn_app (goodIn_of _ (by decide +kernel)) ggX0_planLeadsTo_X0_requirePlace
set_option maxRecDepth 20000 in
theorem ggX0_planLeadsTo_X0_holdsExam : GoodIn wsX0_planLeadsTo wsX0_holdsExam := goodIn_r _ [12, 13, 14, 15, 4, 16, 41, 42, 43, 44, 45, 46, 47, 48, 49, 50, 51, 52, 53, 54, 55, 56, 57, 58] (by decide +kernel) (by decide +kernel)
set_option maxRecDepth 20000 in
theorem gX0_planLeadsTo_X0_holdsExam : GoodIn wsX0_planLeadsTo (wsV RX0 135 RX0 yX0_holdsExam wsX0_holdsExam) := goodIn_app (goodIn_of _ (by decide +kernel)) ggX0_planLeadsTo_X0_holdsExam
set_option maxRecDepth 20000 in
theorem ggX0_planLeadsTo_X0_plansRight : GoodIn wsX0_planLeadsTo wsX0_plansRight := goodIn_r _ [20, 21, 22, 23, 4, 24, 25, 26, 27, 28, 29, 30, 31, 32, 33, 34, 35, 36, 37, 38, 39, 40, 41, 42, 43, 44, 45, 46, 47, 48, 49, 50, 51, 52, 53, 54, 55, 56, 57, 58] (by decide +kernel) (by decide +kernel)
set_option maxRecDepth 20000 in
theorem gX0_planLeadsTo_X0_plansRight : GoodIn wsX0_planLeadsTo (wsV RX0 150 RX0 yX0_plansRight wsX0_plansRight) := goodIn_app (goodIn_of _ (by decide +kernel)) ggX0_planLeadsTo_X0_plansRight
set_option maxRecDepth 20000 in
theorem ggX0_planLeadsTo_X0_pathFrom : GoodIn wsX0_planLeadsTo wsX0_pathFrom := goodIn_r _ [35, 36, 37, 38, 39, 4, 40, 41, 42, 43, 44, 45, 46, 47, 48, 49, 50, 51, 52, 53, 54, 55, 56, 57, 58] (by decide +kernel) (by decide +kernel)
set_option maxRecDepth 20000 in
theorem gX0_planLeadsTo_X0_pathFrom : GoodIn wsX0_planLeadsTo (wsV RX0 163 RX0 yX0_pathFrom wsX0_pathFrom) := goodIn_app (goodIn_of _ (by decide +kernel)) ggX0_planLeadsTo_X0_pathFrom
theorem dX0_planLeadsTo_0 : decode cX0_planLeadsTo 0 = .ok (.aload_n 0, 1) := by decide +kernel
theorem dX0_planLeadsTo_1 : decode cX0_planLeadsTo 1 = .ok (.iload_n 1, 1) := by decide +kernel
theorem dX0_planLeadsTo_2 : decode cX0_planLeadsTo 2 = .ok (.invokevirtual 84, 3) := by decide +kernel
theorem dX0_planLeadsTo_5 : decode cX0_planLeadsTo 5 = .ok (.iload_n 1, 1) := by decide +kernel
theorem dX0_planLeadsTo_6 : decode cX0_planLeadsTo 6 = .ok (.istore_n 2, 1) := by decide +kernel
theorem dX0_planLeadsTo_7 : decode cX0_planLeadsTo 7 = .ok (.iconst 0, 1) := by decide +kernel
theorem dX0_planLeadsTo_8 : decode cX0_planLeadsTo 8 = .ok (.istore_n 3, 1) := by decide +kernel
theorem dX0_planLeadsTo_9 : decode cX0_planLeadsTo 9 = .ok (.iload_n 3, 1) := by decide +kernel
theorem dX0_planLeadsTo_10 : decode cX0_planLeadsTo 10 = .ok (.bipush 40, 2) := by decide +kernel
theorem dX0_planLeadsTo_12 : decode cX0_planLeadsTo 12 = .ok (.if_icmp .ge 28, 3) := by decide +kernel
theorem dX0_planLeadsTo_15 : decode cX0_planLeadsTo 15 = .ok (.aload_n 0, 1) := by decide +kernel
theorem dX0_planLeadsTo_16 : decode cX0_planLeadsTo 16 = .ok (.iload_n 2, 1) := by decide +kernel
theorem dX0_planLeadsTo_17 : decode cX0_planLeadsTo 17 = .ok (.invokevirtual 135, 3) := by decide +kernel
theorem dX0_planLeadsTo_20 : decode cX0_planLeadsTo 20 = .ok (.ifCond .ne 20, 3) := by decide +kernel
theorem dX0_planLeadsTo_23 : decode cX0_planLeadsTo 23 = .ok (.aload_n 0, 1) := by decide +kernel
theorem dX0_planLeadsTo_24 : decode cX0_planLeadsTo 24 = .ok (.iload_n 2, 1) := by decide +kernel
theorem dX0_planLeadsTo_25 : decode cX0_planLeadsTo 25 = .ok (.aload_n 0, 1) := by decide +kernel
theorem dX0_planLeadsTo_26 : decode cX0_planLeadsTo 26 = .ok (.iload_n 2, 1) := by decide +kernel
theorem dX0_planLeadsTo_27 : decode cX0_planLeadsTo 27 = .ok (.invokevirtual 150, 3) := by decide +kernel
theorem dX0_planLeadsTo_30 : decode cX0_planLeadsTo 30 = .ok (.invokevirtual 163, 3) := by decide +kernel
theorem dX0_planLeadsTo_33 : decode cX0_planLeadsTo 33 = .ok (.istore_n 2, 1) := by decide +kernel
theorem dX0_planLeadsTo_34 : decode cX0_planLeadsTo 34 = .ok (.iinc 3 1, 3) := by decide +kernel
theorem dX0_planLeadsTo_37 : decode cX0_planLeadsTo 37 = .ok (.goto (-28), 3) := by decide +kernel
theorem dX0_planLeadsTo_40 : decode cX0_planLeadsTo 40 = .ok (.iload_n 2, 1) := by decide +kernel
theorem dX0_planLeadsTo_41 : decode cX0_planLeadsTo 41 = .ok (.ireturn, 1) := by decide +kernel
set_option maxRecDepth 20000 in
theorem ggX0_riskiestFork_X0_holdsExam : GoodIn wsX0_riskiestFork wsX0_holdsExam := goodIn_r _ [6, 7, 8, 9, 5, 10, 38, 39, 40, 41, 42, 43, 44, 45, 46, 47, 48, 49, 50, 51, 52, 53, 54, 55] (by decide +kernel) (by decide +kernel)
set_option maxRecDepth 20000 in
theorem gX0_riskiestFork_X0_holdsExam : GoodIn wsX0_riskiestFork (wsV RX0 135 RX0 yX0_holdsExam wsX0_holdsExam) := goodIn_app (goodIn_of _ (by decide +kernel)) ggX0_riskiestFork_X0_holdsExam
set_option maxRecDepth 20000 in
theorem ggX0_riskiestFork_X0_smallerRisk : GoodIn wsX0_riskiestFork wsX0_smallerRisk := goodIn_r _ [14, 15, 16, 17, 18, 19, 20, 21, 5, 22, 23, 24, 25, 26, 27, 28, 29, 30, 31, 32, 33, 34, 35, 36, 37, 38, 39, 40, 41, 42, 43, 44, 45, 46, 47, 48, 49, 50, 51, 52, 53, 54, 55] (by decide +kernel) (by decide +kernel)
set_option maxRecDepth 20000 in
theorem gX0_riskiestFork_X0_smallerRisk : GoodIn wsX0_riskiestFork (wsV RX0 166 RX0 yX0_smallerRisk wsX0_smallerRisk) := goodIn_app (goodIn_of _ (by decide +kernel)) ggX0_riskiestFork_X0_smallerRisk
theorem dX0_riskiestFork_0 : decode cX0_riskiestFork 0 = .ok (.iconst (-1), 1) := by decide +kernel
theorem dX0_riskiestFork_1 : decode cX0_riskiestFork 1 = .ok (.istore_n 1, 1) := by decide +kernel
theorem dX0_riskiestFork_2 : decode cX0_riskiestFork 2 = .ok (.iconst (-1), 1) := by decide +kernel
theorem dX0_riskiestFork_3 : decode cX0_riskiestFork 3 = .ok (.istore_n 2, 1) := by decide +kernel
theorem dX0_riskiestFork_4 : decode cX0_riskiestFork 4 = .ok (.iconst 0, 1) := by decide +kernel
theorem dX0_riskiestFork_5 : decode cX0_riskiestFork 5 = .ok (.istore_n 3, 1) := by decide +kernel
theorem dX0_riskiestFork_6 : decode cX0_riskiestFork 6 = .ok (.iload_n 3, 1) := by decide +kernel
theorem dX0_riskiestFork_7 : decode cX0_riskiestFork 7 = .ok (.aload_n 0, 1) := by decide +kernel
theorem dX0_riskiestFork_8 : decode cX0_riskiestFork 8 = .ok (.getfield 60, 3) := by decide +kernel
theorem dX0_riskiestFork_11 : decode cX0_riskiestFork 11 = .ok (.if_icmp .ge 34, 3) := by decide +kernel
theorem dX0_riskiestFork_14 : decode cX0_riskiestFork 14 = .ok (.aload_n 0, 1) := by decide +kernel
theorem dX0_riskiestFork_15 : decode cX0_riskiestFork 15 = .ok (.iload_n 3, 1) := by decide +kernel
theorem dX0_riskiestFork_16 : decode cX0_riskiestFork 16 = .ok (.invokevirtual 135, 3) := by decide +kernel
theorem dX0_riskiestFork_19 : decode cX0_riskiestFork 19 = .ok (.ifCond .ne 20, 3) := by decide +kernel
theorem dX0_riskiestFork_22 : decode cX0_riskiestFork 22 = .ok (.aload_n 0, 1) := by decide +kernel
theorem dX0_riskiestFork_23 : decode cX0_riskiestFork 23 = .ok (.iload_n 3, 1) := by decide +kernel
theorem dX0_riskiestFork_24 : decode cX0_riskiestFork 24 = .ok (.invokevirtual 166, 3) := by decide +kernel
theorem dX0_riskiestFork_27 : decode cX0_riskiestFork 27 = .ok (.iload_n 2, 1) := by decide +kernel
theorem dX0_riskiestFork_28 : decode cX0_riskiestFork 28 = .ok (.if_icmp .le 11, 3) := by decide +kernel
theorem dX0_riskiestFork_31 : decode cX0_riskiestFork 31 = .ok (.iload_n 3, 1) := by decide +kernel
theorem dX0_riskiestFork_32 : decode cX0_riskiestFork 32 = .ok (.istore_n 1, 1) := by decide +kernel
theorem dX0_riskiestFork_33 : decode cX0_riskiestFork 33 = .ok (.aload_n 0, 1) := by decide +kernel
theorem dX0_riskiestFork_34 : decode cX0_riskiestFork 34 = .ok (.iload_n 3, 1) := by decide +kernel
theorem dX0_riskiestFork_35 : decode cX0_riskiestFork 35 = .ok (.invokevirtual 166, 3) := by decide +kernel
theorem dX0_riskiestFork_38 : decode cX0_riskiestFork 38 = .ok (.istore_n 2, 1) := by decide +kernel
theorem dX0_riskiestFork_39 : decode cX0_riskiestFork 39 = .ok (.iinc 3 1, 3) := by decide +kernel
theorem dX0_riskiestFork_42 : decode cX0_riskiestFork 42 = .ok (.goto (-36), 3) := by decide +kernel
theorem dX0_riskiestFork_45 : decode cX0_riskiestFork 45 = .ok (.iload_n 1, 1) := by decide +kernel
theorem dX0_riskiestFork_46 : decode cX0_riskiestFork 46 = .ok (.ireturn, 1) := by decide +kernel
set_option maxRecDepth 20000 in
theorem ggX0_hindsight_X0_requireFork : GoodIn wsX0_hindsight wsX0_requireFork := goodIn_ca (goodIn_r _ [6, 7, 8, 9, 10, 11, 5, 12, 13, 14, 15, 16, 17, 18, 19, 20, 21, 25, 26, 27, 28, 29, 30, 31, 32, 33, 34, 35, 36, 37, 38, 39, 40, 41, 42] (by decide +kernel) (by decide +kernel)) (goodIn_sub (fun _ h => List.mem_cons_of_mem _ (List.mem_append_right _ h)) (by decide +kernel))
set_option maxRecDepth 20000 in
theorem gX0_hindsight_X0_requireFork : GoodIn wsX0_hindsight (wsV RX0 124 RX0 yX0_requireFork wsX0_requireFork) := goodIn_app (goodIn_of _ (by decide +kernel)) ggX0_hindsight_X0_requireFork
set_option maxRecDepth 20000 in
theorem ggX0_hindsight_X0_at : GoodIn wsX0_hindsight wsX0_at := goodIn_r _ [24] (by decide +kernel) (by decide +kernel)
set_option maxRecDepth 20000 in
theorem gX0_hindsight_X0_at : GoodIn wsX0_hindsight (va_wsS RX0 100 yX0_at wsX0_at) := goodIn_app (goodIn_of _ (by decide +kernel)) ggX0_hindsight_X0_at
theorem dX0_hindsight_0 : decode cX0_hindsight 0 = .ok (.aload_n 0, 1) := by decide +kernel
theorem dX0_hindsight_1 : decode cX0_hindsight 1 = .ok (.iload_n 1, 1) := by decide +kernel
theorem dX0_hindsight_2 : decode cX0_hindsight 2 = .ok (.invokevirtual 124, 3) := by decide +kernel
theorem dX0_hindsight_5 : decode cX0_hindsight 5 = .ok (.aload_n 0, 1) := by decide +kernel
theorem dX0_hindsight_6 : decode cX0_hindsight 6 = .ok (.getfield 34, 3) := by decide +kernel
theorem dX0_hindsight_9 : decode cX0_hindsight 9 = .ok (.iload_n 1, 1) := by decide +kernel
theorem dX0_hindsight_10 : decode cX0_hindsight 10 = .ok (.invokestatic 100, 3) := by decide +kernel
theorem dX0_hindsight_13 : decode cX0_hindsight 13 = .ok (.ireturn, 1) := by decide +kernel
set_option maxRecDepth 20000 in
theorem ggX0_regretOf_X0_requireStudent : GoodIn wsX0_regretOf wsX0_requireStudent := goodIn_ca (goodIn_r _ [5, 6, 7, 8, 44, 45, 46, 47, 48, 49, 50, 51, 52, 53, 54, 55, 56, 57, 58, 59, 60, 61] (by decide +kernel) (by decide +kernel)) (goodIn_sub (fun _ h => List.mem_cons_of_mem _ (List.mem_append_left _ (List.mem_append_right _ h))) (by decide +kernel))
set_option maxRecDepth 20000 in
theorem gX0_regretOf_X0_requireStudent : GoodIn wsX0_regretOf (wsV RX0 132 RX0 yX0_requireStudent wsX0_requireStudent) := goodIn_app (goodIn_of _ (by decide +kernel)) ggX0_regretOf_X0_requireStudent
set_option maxRecDepth 20000 in
theorem ggX0_regretOf_X0_requireGraded : GoodIn wsX0_regretOf wsX0_requireGraded := goodIn_ca (goodIn_r _ [12, 13, 14, 15, 16, 17, 4, 18, 19, 20, 21, 22, 23, 44, 45, 46, 47, 48, 49, 50, 51, 52, 53, 54, 55, 56, 57, 58, 59, 60, 61] (by decide +kernel) (by decide +kernel)) (goodIn_sub (fun _ h => List.mem_cons_of_mem _ (List.mem_append_right _ h)) (by decide +kernel))
set_option maxRecDepth 20000 in
theorem gX0_regretOf_X0_requireGraded : GoodIn wsX0_regretOf (wsV RX0 170 RX0 yX0_requireGraded wsX0_requireGraded) := goodIn_app (goodIn_of _ (by decide +kernel)) ggX0_regretOf_X0_requireGraded
set_option maxRecDepth 20000 in
theorem ggX0_regretOf_X0_regretOfAll : GoodIn wsX0_regretOf wsX0_regretOfAll := goodIn_r _ [27, 28, 16, 17, 4, 18, 29, 30, 31, 32, 23, 15, 33, 34, 35, 36, 37, 38, 39, 40, 41, 42, 43, 44, 45, 46, 47, 48, 49, 50, 51, 52, 53, 54, 55, 56, 57, 58, 59, 60, 61] (by decide +kernel) (by decide +kernel)
set_option maxRecDepth 20000 in
theorem gX0_regretOf_X0_regretOfAll : GoodIn wsX0_regretOf (wsV RX0 173 RX0 yX0_regretOfAll wsX0_regretOfAll) := goodIn_app (goodIn_of _ (by decide +kernel)) ggX0_regretOf_X0_regretOfAll
theorem dX0_regretOf_0 : decode cX0_regretOf 0 = .ok (.aload_n 0, 1) := by decide +kernel
theorem dX0_regretOf_1 : decode cX0_regretOf 1 = .ok (.iload_n 1, 1) := by decide +kernel
theorem dX0_regretOf_2 : decode cX0_regretOf 2 = .ok (.invokevirtual 132, 3) := by decide +kernel
theorem dX0_regretOf_5 : decode cX0_regretOf 5 = .ok (.aload_n 0, 1) := by decide +kernel
theorem dX0_regretOf_6 : decode cX0_regretOf 6 = .ok (.iload_n 1, 1) := by decide +kernel
theorem dX0_regretOf_7 : decode cX0_regretOf 7 = .ok (.invokevirtual 170, 3) := by decide +kernel
theorem dX0_regretOf_10 : decode cX0_regretOf 10 = .ok (.aload_n 0, 1) := by decide +kernel
theorem dX0_regretOf_11 : decode cX0_regretOf 11 = .ok (.iload_n 1, 1) := by decide +kernel
theorem dX0_regretOf_12 : decode cX0_regretOf 12 = .ok (.invokevirtual 173, 3) := by decide +kernel
theorem dX0_regretOf_15 : decode cX0_regretOf 15 = .ok (.ireturn, 1) := by decide +kernel
set_option maxRecDepth 20000 in
theorem ggX0_worstFork_X0_requireStudent : GoodIn wsX0_worstFork wsX0_requireStudent := goodIn_ca (goodIn_r _ [6, 7, 8, 9, 40, 41, 42, 43, 44, 45, 46, 47, 48, 49, 50, 51, 52, 53, 54, 55, 56, 57] (by decide +kernel) (by decide +kernel)) (goodIn_sub (fun _ h => List.mem_cons_of_mem _ (List.mem_append_left _ (List.mem_append_right _ h))) (by decide +kernel))
set_option maxRecDepth 20000 in
theorem gX0_worstFork_X0_requireStudent : GoodIn wsX0_worstFork (wsV RX0 132 RX0 yX0_requireStudent wsX0_requireStudent) := goodIn_app (goodIn_of _ (by decide +kernel)) ggX0_worstFork_X0_requireStudent
set_option maxRecDepth 20000 in
theorem ggX0_worstFork_X0_requireGraded : GoodIn wsX0_worstFork wsX0_requireGraded := goodIn_ca (goodIn_r _ [13, 14, 15, 16, 17, 18, 5, 19, 20, 21, 22, 23, 24, 40, 41, 42, 43, 44, 45, 46, 47, 48, 49, 50, 51, 52, 53, 54, 55, 56, 57] (by decide +kernel) (by decide +kernel)) (goodIn_sub (fun _ h => List.mem_cons_of_mem _ (List.mem_append_right _ h)) (by decide +kernel))
set_option maxRecDepth 20000 in
theorem gX0_worstFork_X0_requireGraded : GoodIn wsX0_worstFork (wsV RX0 170 RX0 yX0_requireGraded wsX0_requireGraded) := goodIn_app (goodIn_of _ (by decide +kernel)) ggX0_worstFork_X0_requireGraded
set_option maxRecDepth 20000 in
theorem ggX0_worstFork_X0_at : GoodIn wsX0_worstFork wsX0_at := goodIn_r _ [19] (by decide +kernel) (by decide +kernel)
set_option maxRecDepth 20000 in
theorem gX0_worstFork_X0_at : GoodIn wsX0_worstFork (va_wsS RX0 100 yX0_at wsX0_at) := goodIn_app (goodIn_of _ (by decide +kernel)) ggX0_worstFork_X0_at
set_option maxRecDepth 20000 in
theorem ggX0_worstFork_X0_regretOfStep : GoodIn wsX0_worstFork wsX0_regretOfStep := goodIn_r _ [28, 24, 16, 29, 30, 31, 32, 33, 34, 35, 36, 37, 5, 38, 39, 17, 18, 19, 40, 41, 42, 43, 44, 45, 46, 47, 48, 49, 50, 51, 52, 53, 54, 55, 56, 57] (by decide +kernel) (by decide +kernel)
set_option maxRecDepth 20000 in
theorem gX0_worstFork_X0_regretOfStep : GoodIn wsX0_worstFork (wsV RX0 176 RX0 yX0_regretOfStep wsX0_regretOfStep) := goodIn_app (goodIn_of _ (by decide +kernel)) ggX0_worstFork_X0_regretOfStep
set_option maxRecDepth 20000 in
theorem ggX0_worstFork_X0_passedFork : GoodIn wsX0_worstFork wsX0_passedFork := goodIn_r _ [38, 39, 17, 18, 5, 19, 40, 41, 42, 43, 44, 45, 46, 47, 48, 49, 50, 51, 52, 53, 54, 55, 56, 57] (by decide +kernel) (by decide +kernel)
set_option maxRecDepth 20000 in
theorem gX0_worstFork_X0_passedFork : GoodIn wsX0_worstFork (wsV RX0 146 RX0 yX0_passedFork wsX0_passedFork) := goodIn_app (goodIn_of _ (by decide +kernel)) ggX0_worstFork_X0_passedFork
theorem dX0_worstFork_0 : decode cX0_worstFork 0 = .ok (.aload_n 0, 1) := by decide +kernel
theorem dX0_worstFork_1 : decode cX0_worstFork 1 = .ok (.iload_n 1, 1) := by decide +kernel
theorem dX0_worstFork_2 : decode cX0_worstFork 2 = .ok (.invokevirtual 132, 3) := by decide +kernel
theorem dX0_worstFork_5 : decode cX0_worstFork 5 = .ok (.aload_n 0, 1) := by decide +kernel
theorem dX0_worstFork_6 : decode cX0_worstFork 6 = .ok (.iload_n 1, 1) := by decide +kernel
theorem dX0_worstFork_7 : decode cX0_worstFork 7 = .ok (.invokevirtual 170, 3) := by decide +kernel
theorem dX0_worstFork_10 : decode cX0_worstFork 10 = .ok (.iconst (-1), 1) := by decide +kernel
theorem dX0_worstFork_11 : decode cX0_worstFork 11 = .ok (.istore_n 2, 1) := by decide +kernel
theorem dX0_worstFork_12 : decode cX0_worstFork 12 = .ok (.iconst 0, 1) := by decide +kernel
theorem dX0_worstFork_13 : decode cX0_worstFork 13 = .ok (.istore_n 3, 1) := by decide +kernel
theorem dX0_worstFork_14 : decode cX0_worstFork 14 = .ok (.aload_n 0, 1) := by decide +kernel
theorem dX0_worstFork_15 : decode cX0_worstFork 15 = .ok (.getfield 44, 3) := by decide +kernel
theorem dX0_worstFork_18 : decode cX0_worstFork 18 = .ok (.iload_n 1, 1) := by decide +kernel
theorem dX0_worstFork_19 : decode cX0_worstFork 19 = .ok (.invokestatic 100, 3) := by decide +kernel
theorem dX0_worstFork_22 : decode cX0_worstFork 22 = .ok (.istore 4, 2) := by decide +kernel
theorem dX0_worstFork_24 : decode cX0_worstFork 24 = .ok (.iconst 0, 1) := by decide +kernel
theorem dX0_worstFork_25 : decode cX0_worstFork 25 = .ok (.istore 5, 2) := by decide +kernel
theorem dX0_worstFork_27 : decode cX0_worstFork 27 = .ok (.iload 5, 2) := by decide +kernel
theorem dX0_worstFork_29 : decode cX0_worstFork 29 = .ok (.iload 4, 2) := by decide +kernel
theorem dX0_worstFork_31 : decode cX0_worstFork 31 = .ok (.if_icmp .ge 35, 3) := by decide +kernel
theorem dX0_worstFork_34 : decode cX0_worstFork 34 = .ok (.aload_n 0, 1) := by decide +kernel
theorem dX0_worstFork_35 : decode cX0_worstFork 35 = .ok (.iload_n 1, 1) := by decide +kernel
theorem dX0_worstFork_36 : decode cX0_worstFork 36 = .ok (.iload 5, 2) := by decide +kernel
theorem dX0_worstFork_38 : decode cX0_worstFork 38 = .ok (.invokevirtual 176, 3) := by decide +kernel
theorem dX0_worstFork_41 : decode cX0_worstFork 41 = .ok (.istore 6, 2) := by decide +kernel
theorem dX0_worstFork_43 : decode cX0_worstFork 43 = .ok (.iload 6, 2) := by decide +kernel
theorem dX0_worstFork_45 : decode cX0_worstFork 45 = .ok (.iload_n 3, 1) := by decide +kernel
theorem dX0_worstFork_46 : decode cX0_worstFork 46 = .ok (.if_icmp .le 14, 3) := by decide +kernel
theorem dX0_worstFork_49 : decode cX0_worstFork 49 = .ok (.aload_n 0, 1) := by decide +kernel
theorem dX0_worstFork_50 : decode cX0_worstFork 50 = .ok (.iload_n 1, 1) := by decide +kernel
theorem dX0_worstFork_51 : decode cX0_worstFork 51 = .ok (.iload 5, 2) := by decide +kernel
theorem dX0_worstFork_53 : decode cX0_worstFork 53 = .ok (.invokevirtual 146, 3) := by decide +kernel
theorem dX0_worstFork_56 : decode cX0_worstFork 56 = .ok (.istore_n 2, 1) := by decide +kernel
theorem dX0_worstFork_57 : decode cX0_worstFork 57 = .ok (.iload 6, 2) := by decide +kernel
theorem dX0_worstFork_59 : decode cX0_worstFork 59 = .ok (.istore_n 3, 1) := by decide +kernel
theorem dX0_worstFork_60 : decode cX0_worstFork 60 = .ok (.iinc 5 1, 3) := by decide +kernel
theorem dX0_worstFork_63 : decode cX0_worstFork 63 = .ok (.goto (-36), 3) := by decide +kernel
theorem dX0_worstFork_66 : decode cX0_worstFork 66 = .ok (.iload_n 2, 1) := by decide +kernel
theorem dX0_worstFork_67 : decode cX0_worstFork 67 = .ok (.ireturn, 1) := by decide +kernel
set_option maxRecDepth 20000 in
theorem ggX0_allRegret_X0_at : GoodIn wsX0_allRegret wsX0_at := goodIn_r _ [6] (by decide +kernel) (by decide +kernel)
set_option maxRecDepth 20000 in
theorem gX0_allRegret_X0_at : GoodIn wsX0_allRegret (va_wsS RX0 100 yX0_at wsX0_at) := goodIn_app (goodIn_of _ (by decide +kernel)) ggX0_allRegret_X0_at
set_option maxRecDepth 20000 in
theorem ggX0_allRegret_X0_hasGrade : GoodIn wsX0_allRegret wsX0_hasGrade := goodIn_r _ [10, 11, 3, 4, 5, 6, 32, 33, 34, 35, 36, 37, 38, 39, 40, 41, 42, 43, 44, 45, 46, 47, 48, 49] (by decide +kernel) (by decide +kernel)
set_option maxRecDepth 20000 in
theorem gX0_allRegret_X0_hasGrade : GoodIn wsX0_allRegret (wsV RX0 106 RX0 yX0_hasGrade wsX0_hasGrade) := goodIn_app (goodIn_of _ (by decide +kernel)) ggX0_allRegret_X0_hasGrade
set_option maxRecDepth 20000 in
theorem ggX0_allRegret_X0_regretOfAll : GoodIn wsX0_allRegret wsX0_regretOfAll := goodIn_r _ [15, 16, 3, 4, 5, 6, 17, 18, 19, 20, 11, 2, 21, 22, 23, 24, 25, 26, 27, 28, 29, 30, 31, 32, 33, 34, 35, 36, 37, 38, 39, 40, 41, 42, 43, 44, 45, 46, 47, 48, 49] (by decide +kernel) (by decide +kernel)
set_option maxRecDepth 20000 in
theorem gX0_allRegret_X0_regretOfAll : GoodIn wsX0_allRegret (wsV RX0 173 RX0 yX0_regretOfAll wsX0_regretOfAll) := goodIn_app (goodIn_of _ (by decide +kernel)) ggX0_allRegret_X0_regretOfAll
theorem dX0_allRegret_0 : decode cX0_allRegret 0 = .ok (.iconst 0, 1) := by decide +kernel
theorem dX0_allRegret_1 : decode cX0_allRegret 1 = .ok (.istore_n 1, 1) := by decide +kernel
theorem dX0_allRegret_2 : decode cX0_allRegret 2 = .ok (.iconst 0, 1) := by decide +kernel
theorem dX0_allRegret_3 : decode cX0_allRegret 3 = .ok (.istore_n 2, 1) := by decide +kernel
theorem dX0_allRegret_4 : decode cX0_allRegret 4 = .ok (.iload_n 2, 1) := by decide +kernel
theorem dX0_allRegret_5 : decode cX0_allRegret 5 = .ok (.aload_n 0, 1) := by decide +kernel
theorem dX0_allRegret_6 : decode cX0_allRegret 6 = .ok (.getfield 127, 3) := by decide +kernel
theorem dX0_allRegret_9 : decode cX0_allRegret 9 = .ok (.if_icmp .ge 32, 3) := by decide +kernel
theorem dX0_allRegret_12 : decode cX0_allRegret 12 = .ok (.aload_n 0, 1) := by decide +kernel
theorem dX0_allRegret_13 : decode cX0_allRegret 13 = .ok (.aload_n 0, 1) := by decide +kernel
theorem dX0_allRegret_14 : decode cX0_allRegret 14 = .ok (.getfield 41, 3) := by decide +kernel
theorem dX0_allRegret_17 : decode cX0_allRegret 17 = .ok (.iload_n 2, 1) := by decide +kernel
theorem dX0_allRegret_18 : decode cX0_allRegret 18 = .ok (.invokestatic 100, 3) := by decide +kernel
theorem dX0_allRegret_21 : decode cX0_allRegret 21 = .ok (.invokevirtual 106, 3) := by decide +kernel
theorem dX0_allRegret_24 : decode cX0_allRegret 24 = .ok (.ifCond .eq 11, 3) := by decide +kernel
theorem dX0_allRegret_27 : decode cX0_allRegret 27 = .ok (.iload_n 1, 1) := by decide +kernel
theorem dX0_allRegret_28 : decode cX0_allRegret 28 = .ok (.aload_n 0, 1) := by decide +kernel
theorem dX0_allRegret_29 : decode cX0_allRegret 29 = .ok (.iload_n 2, 1) := by decide +kernel
theorem dX0_allRegret_30 : decode cX0_allRegret 30 = .ok (.invokevirtual 173, 3) := by decide +kernel
theorem dX0_allRegret_33 : decode cX0_allRegret 33 = .ok (.iadd, 1) := by decide +kernel
theorem dX0_allRegret_34 : decode cX0_allRegret 34 = .ok (.istore_n 1, 1) := by decide +kernel
theorem dX0_allRegret_35 : decode cX0_allRegret 35 = .ok (.iinc 2 1, 3) := by decide +kernel
theorem dX0_allRegret_38 : decode cX0_allRegret 38 = .ok (.goto (-34), 3) := by decide +kernel
theorem dX0_allRegret_41 : decode cX0_allRegret 41 = .ok (.iload_n 1, 1) := by decide +kernel
theorem dX0_allRegret_42 : decode cX0_allRegret 42 = .ok (.ireturn, 1) := by decide +kernel
theorem dX0_meanGrade_0 : decode cX0_meanGrade 0 = .ok (.aload_n 0, 1) := by decide +kernel
theorem dX0_meanGrade_1 : decode cX0_meanGrade 1 = .ok (.getfield 115, 3) := by decide +kernel
theorem dX0_meanGrade_4 : decode cX0_meanGrade 4 = .ok (.ifCond .ne 5, 3) := by decide +kernel
theorem dX0_meanGrade_7 : decode cX0_meanGrade 7 = .ok (.dconst 0, 1) := by decide +kernel
theorem dX0_meanGrade_8 : decode cX0_meanGrade 8 = .ok (.dreturn, 1) := by decide +kernel
theorem dX0_meanGrade_9 : decode cX0_meanGrade 9 = .ok (.aload_n 0, 1) := by decide +kernel
theorem dX0_meanGrade_10 : decode cX0_meanGrade 10 = .ok (.getfield 118, 3) := by decide +kernel
theorem dX0_meanGrade_13 : decode cX0_meanGrade 13 = .ok (.i2d, 1) := by decide +kernel
theorem dX0_meanGrade_14 : decode cX0_meanGrade 14 = .ok (.aload_n 0, 1) := by decide +kernel
theorem dX0_meanGrade_15 : decode cX0_meanGrade 15 = .ok (.getfield 115, 3) := by decide +kernel
theorem dX0_meanGrade_18 : decode cX0_meanGrade 18 = .ok (.i2d, 1) := by decide +kernel
theorem dX0_meanGrade_19 : decode cX0_meanGrade 19 = .ok (.ddiv, 1) := by decide +kernel
theorem dX0_meanGrade_20 : decode cX0_meanGrade 20 = .ok (.dreturn, 1) := by decide +kernel
set_option maxRecDepth 20000 in
theorem ggX0_digest_X0_places : GoodIn wsX0_digest wsX0_places := goodIn_r _ [8, 2, 179, 180, 181, 182, 183, 184, 185, 186, 187, 188, 189, 190, 191, 192, 193, 194, 195, 196] (by decide +kernel) (by decide +kernel)
set_option maxRecDepth 20000 in
theorem gX0_digest_X0_places : GoodIn wsX0_digest (wsV RX0 181 RX0 yX0_places wsX0_places) := goodIn_app (goodIn_of _ (by decide +kernel)) ggX0_digest_X0_places
set_option maxRecDepth 20000 in
theorem ggX0_digest_X0_mix : GoodIn wsX0_digest wsX0_mix := goodIn_r _ [11, 12] (by decide +kernel) (by decide +kernel)
set_option maxRecDepth 20000 in
theorem gX0_digest_X0_mix : GoodIn wsX0_digest (va_wsS RX0 185 yX0_mix wsX0_mix) := goodIn_app (goodIn_of _ (by decide +kernel)) ggX0_digest_X0_mix
set_option maxRecDepth 20000 in
theorem ggX0_digest_X0_exams : GoodIn wsX0_digest wsX0_exams := goodIn_r _ [16, 17, 18, 19, 20, 21, 22, 23, 24, 179, 180, 181, 182, 183, 184, 185, 186, 187, 188, 189, 190, 191, 192, 193, 194, 195, 196] (by decide +kernel) (by decide +kernel)
set_option maxRecDepth 20000 in
theorem gX0_digest_X0_exams : GoodIn wsX0_digest (wsV RX0 189 RX0 yX0_exams wsX0_exams) := goodIn_app (goodIn_of _ (by decide +kernel)) ggX0_digest_X0_exams
set_option maxRecDepth 20000 in
theorem ggX0_digest_X0_graded : GoodIn wsX0_digest wsX0_graded := goodIn_r _ [28, 29, 179, 180, 181, 182, 183, 184, 185, 186, 187, 188, 189, 190, 191, 192, 193, 194, 195, 196] (by decide +kernel) (by decide +kernel)
set_option maxRecDepth 20000 in
theorem gX0_digest_X0_graded : GoodIn wsX0_digest (wsV RX0 192 RX0 yX0_graded wsX0_graded) := goodIn_app (goodIn_of _ (by decide +kernel)) ggX0_digest_X0_graded
set_option maxRecDepth 20000 in
theorem ggX0_digest_X0_students : GoodIn wsX0_digest wsX0_students := goodIn_r _ [33, 3, 179, 180, 181, 182, 183, 184, 185, 186, 187, 188, 189, 190, 191, 192, 193, 194, 195, 196] (by decide +kernel) (by decide +kernel)
set_option maxRecDepth 20000 in
theorem gX0_digest_X0_students : GoodIn wsX0_digest (wsV RX0 195 RX0 yX0_students wsX0_students) := goodIn_app (goodIn_of _ (by decide +kernel)) ggX0_digest_X0_students
set_option maxRecDepth 20000 in
theorem ggX0_digest_X0_atExams : GoodIn wsX0_digest wsX0_atExams := goodIn_r _ [37, 3, 38, 39, 40, 7, 41, 42, 43, 44, 45, 17, 46, 47, 48, 179, 180, 181, 182, 183, 184, 185, 186, 187, 188, 189, 190, 191, 192, 193, 194, 195, 196] (by decide +kernel) (by decide +kernel)
set_option maxRecDepth 20000 in
theorem gX0_digest_X0_atExams : GoodIn wsX0_digest (wsV RX0 198 RX0 yX0_atExams wsX0_atExams) := goodIn_app (goodIn_of _ (by decide +kernel)) ggX0_digest_X0_atExams
set_option maxRecDepth 20000 in
theorem ggX0_digest_X0_riskiestFork : GoodIn wsX0_digest wsX0_riskiestFork := goodIn_r _ [52, 2, 42, 43, 44, 7, 45, 17, 46, 47, 48, 53, 54, 55, 56, 57, 58, 59, 60, 61, 62, 63, 64, 65, 66, 67, 68, 69, 70, 71, 72, 73, 74, 75, 76, 39, 40, 41, 179, 180, 181, 182, 183, 184, 185, 186, 187, 188, 189, 190, 191, 192, 193, 194, 195, 196] (by decide +kernel) (by decide +kernel)
set_option maxRecDepth 20000 in
theorem gX0_digest_X0_riskiestFork : GoodIn wsX0_digest (wsV RX0 201 RX0 yX0_riskiestFork wsX0_riskiestFork) := goodIn_app (goodIn_of _ (by decide +kernel)) ggX0_digest_X0_riskiestFork
set_option maxRecDepth 20000 in
theorem ggX0_digest_X0_allRegret : GoodIn wsX0_digest wsX0_allRegret := goodIn_r _ [80, 3, 38, 39, 40, 7, 41, 81, 82, 83, 84, 85, 86, 87, 88, 89, 90, 91, 92, 93, 94, 95, 67, 68, 59, 69, 70, 96, 97, 98, 99, 100, 179, 180, 181, 182, 183, 184, 185, 186, 187, 188, 189, 190, 191, 192, 193, 194, 195, 196] (by decide +kernel) (by decide +kernel)
set_option maxRecDepth 20000 in
theorem gX0_digest_X0_allRegret : GoodIn wsX0_digest (wsV RX0 204 RX0 yX0_allRegret wsX0_allRegret) := goodIn_app (goodIn_of _ (by decide +kernel)) ggX0_digest_X0_allRegret
set_option maxRecDepth 20000 in
theorem ggX0_digest_X0_mixPlace : GoodIn wsX0_digest wsX0_mixPlace := goodIn_ca (goodIn_r _ [104, 105, 106, 107, 7, 108, 109, 110, 111, 112, 113, 114, 2, 42, 43, 44, 45, 17, 46, 47, 48, 9, 10, 11, 12, 115, 116, 117, 118, 65, 39, 40, 41, 119, 120, 121, 122, 66, 123, 124, 125, 126, 127, 128, 129, 130, 18, 19, 20, 21, 22, 23, 24, 131, 132, 133, 134, 135, 136, 137, 138, 61, 62, 63, 64, 67, 68, 59, 69, 70, 71, 72, 73, 74, 75, 76, 139, 140, 141, 142, 85, 143, 144, 145, 146, 147, 148, 149, 150, 151, 152, 153, 154, 155, 156, 157, 158, 159, 160, 161, 162, 163, 164, 165, 166, 95, 179, 180, 181, 182, 183, 184, 185, 186, 187, 188, 189, 190, 191, 192, 193, 194, 195, 196] (by decide +kernel) (by decide +kernel)) (goodIn_sub (fun _ h => List.mem_cons_of_mem _ (List.mem_append_right _ h)) (by decide +kernel))
set_option maxRecDepth 20000 in
theorem gX0_digest_X0_mixPlace : GoodIn wsX0_digest (wsV RX0 207 RX0 yX0_mixPlace wsX0_mixPlace) := goodIn_app (goodIn_of _ (by decide +kernel)) ggX0_digest_X0_mixPlace
set_option maxRecDepth 20000 in
theorem ggX0_digest_X0_placeOf : GoodIn wsX0_digest wsX0_placeOf := goodIn_ca (goodIn_r _ [170, 38, 171, 172, 173, 7, 174, 113, 114, 3, 39, 40, 41, 179, 180, 181, 182, 183, 184, 185, 186, 187, 188, 189, 190, 191, 192, 193, 194, 195, 196] (by decide +kernel) (by decide +kernel)) (goodIn_sub (fun _ h => List.mem_cons_of_mem _ (List.mem_append_right _ h)) (by decide +kernel))
set_option maxRecDepth 20000 in
theorem gX0_digest_X0_placeOf : GoodIn wsX0_digest (wsV RX0 210 RX0 yX0_placeOf wsX0_placeOf) := goodIn_app (goodIn_of _ (by decide +kernel)) ggX0_digest_X0_placeOf
set_option maxRecDepth 20000 in
theorem ggX0_digest_X0_passedBy : GoodIn wsX0_digest wsX0_passedBy := goodIn_ca (goodIn_r _ [178, 90, 171, 172, 173, 7, 174, 113, 114, 3, 39, 40, 41, 179, 180, 181, 182, 183, 184, 185, 186, 187, 188, 189, 190, 191, 192, 193, 194, 195, 196] (by decide +kernel) (by decide +kernel)) (goodIn_sub (fun _ h => List.mem_cons_of_mem _ (List.mem_append_right _ h)) (by decide +kernel))
set_option maxRecDepth 20000 in
theorem gX0_digest_X0_passedBy : GoodIn wsX0_digest (wsV RX0 213 RX0 yX0_passedBy wsX0_passedBy) := goodIn_app (goodIn_of _ (by decide +kernel)) ggX0_digest_X0_passedBy
theorem dX0_digest_0 : decode cX0_digest 0 = .ok (.ldc2_w 179, 3) := by decide +kernel
theorem dX0_digest_3 : decode cX0_digest 3 = .ok (.lstore_n 1, 1) := by decide +kernel
theorem dX0_digest_4 : decode cX0_digest 4 = .ok (.lload_n 1, 1) := by decide +kernel
theorem dX0_digest_5 : decode cX0_digest 5 = .ok (.aload_n 0, 1) := by decide +kernel
theorem dX0_digest_6 : decode cX0_digest 6 = .ok (.invokevirtual 181, 3) := by decide +kernel
theorem dX0_digest_9 : decode cX0_digest 9 = .ok (.invokestatic 185, 3) := by decide +kernel
theorem dX0_digest_12 : decode cX0_digest 12 = .ok (.lstore_n 1, 1) := by decide +kernel
theorem dX0_digest_13 : decode cX0_digest 13 = .ok (.lload_n 1, 1) := by decide +kernel
theorem dX0_digest_14 : decode cX0_digest 14 = .ok (.aload_n 0, 1) := by decide +kernel
theorem dX0_digest_15 : decode cX0_digest 15 = .ok (.invokevirtual 189, 3) := by decide +kernel
theorem dX0_digest_18 : decode cX0_digest 18 = .ok (.invokestatic 185, 3) := by decide +kernel
theorem dX0_digest_21 : decode cX0_digest 21 = .ok (.lstore_n 1, 1) := by decide +kernel
theorem dX0_digest_22 : decode cX0_digest 22 = .ok (.lload_n 1, 1) := by decide +kernel
theorem dX0_digest_23 : decode cX0_digest 23 = .ok (.aload_n 0, 1) := by decide +kernel
theorem dX0_digest_24 : decode cX0_digest 24 = .ok (.invokevirtual 192, 3) := by decide +kernel
theorem dX0_digest_27 : decode cX0_digest 27 = .ok (.invokestatic 185, 3) := by decide +kernel
theorem dX0_digest_30 : decode cX0_digest 30 = .ok (.lstore_n 1, 1) := by decide +kernel
theorem dX0_digest_31 : decode cX0_digest 31 = .ok (.lload_n 1, 1) := by decide +kernel
theorem dX0_digest_32 : decode cX0_digest 32 = .ok (.aload_n 0, 1) := by decide +kernel
theorem dX0_digest_33 : decode cX0_digest 33 = .ok (.invokevirtual 195, 3) := by decide +kernel
theorem dX0_digest_36 : decode cX0_digest 36 = .ok (.invokestatic 185, 3) := by decide +kernel
theorem dX0_digest_39 : decode cX0_digest 39 = .ok (.lstore_n 1, 1) := by decide +kernel
theorem dX0_digest_40 : decode cX0_digest 40 = .ok (.lload_n 1, 1) := by decide +kernel
theorem dX0_digest_41 : decode cX0_digest 41 = .ok (.aload_n 0, 1) := by decide +kernel
theorem dX0_digest_42 : decode cX0_digest 42 = .ok (.invokevirtual 198, 3) := by decide +kernel
theorem dX0_digest_45 : decode cX0_digest 45 = .ok (.invokestatic 185, 3) := by decide +kernel
theorem dX0_digest_48 : decode cX0_digest 48 = .ok (.lstore_n 1, 1) := by decide +kernel
theorem dX0_digest_49 : decode cX0_digest 49 = .ok (.lload_n 1, 1) := by decide +kernel
theorem dX0_digest_50 : decode cX0_digest 50 = .ok (.aload_n 0, 1) := by decide +kernel
theorem dX0_digest_51 : decode cX0_digest 51 = .ok (.invokevirtual 201, 3) := by decide +kernel
theorem dX0_digest_54 : decode cX0_digest 54 = .ok (.invokestatic 185, 3) := by decide +kernel
theorem dX0_digest_57 : decode cX0_digest 57 = .ok (.lstore_n 1, 1) := by decide +kernel
theorem dX0_digest_58 : decode cX0_digest 58 = .ok (.lload_n 1, 1) := by decide +kernel
theorem dX0_digest_59 : decode cX0_digest 59 = .ok (.aload_n 0, 1) := by decide +kernel
theorem dX0_digest_60 : decode cX0_digest 60 = .ok (.invokevirtual 204, 3) := by decide +kernel
theorem dX0_digest_63 : decode cX0_digest 63 = .ok (.invokestatic 185, 3) := by decide +kernel
theorem dX0_digest_66 : decode cX0_digest 66 = .ok (.lstore_n 1, 1) := by decide +kernel
theorem dX0_digest_67 : decode cX0_digest 67 = .ok (.iconst 0, 1) := by decide +kernel
theorem dX0_digest_68 : decode cX0_digest 68 = .ok (.istore_n 3, 1) := by decide +kernel
theorem dX0_digest_69 : decode cX0_digest 69 = .ok (.iload_n 3, 1) := by decide +kernel
theorem dX0_digest_70 : decode cX0_digest 70 = .ok (.aload_n 0, 1) := by decide +kernel
theorem dX0_digest_71 : decode cX0_digest 71 = .ok (.getfield 60, 3) := by decide +kernel
theorem dX0_digest_74 : decode cX0_digest 74 = .ok (.if_icmp .ge 16, 3) := by decide +kernel
theorem dX0_digest_77 : decode cX0_digest 77 = .ok (.aload_n 0, 1) := by decide +kernel
theorem dX0_digest_78 : decode cX0_digest 78 = .ok (.lload_n 1, 1) := by decide +kernel
theorem dX0_digest_79 : decode cX0_digest 79 = .ok (.iload_n 3, 1) := by decide +kernel
theorem dX0_digest_80 : decode cX0_digest 80 = .ok (.invokevirtual 207, 3) := by decide +kernel
theorem dX0_digest_83 : decode cX0_digest 83 = .ok (.lstore_n 1, 1) := by decide +kernel
theorem dX0_digest_84 : decode cX0_digest 84 = .ok (.iinc 3 1, 3) := by decide +kernel
theorem dX0_digest_87 : decode cX0_digest 87 = .ok (.goto (-18), 3) := by decide +kernel
theorem dX0_digest_90 : decode cX0_digest 90 = .ok (.iconst 0, 1) := by decide +kernel
theorem dX0_digest_91 : decode cX0_digest 91 = .ok (.istore_n 3, 1) := by decide +kernel
theorem dX0_digest_92 : decode cX0_digest 92 = .ok (.iload_n 3, 1) := by decide +kernel
theorem dX0_digest_93 : decode cX0_digest 93 = .ok (.aload_n 0, 1) := by decide +kernel
theorem dX0_digest_94 : decode cX0_digest 94 = .ok (.getfield 127, 3) := by decide +kernel
theorem dX0_digest_97 : decode cX0_digest 97 = .ok (.if_icmp .ge 29, 3) := by decide +kernel
theorem dX0_digest_100 : decode cX0_digest 100 = .ok (.lload_n 1, 1) := by decide +kernel
theorem dX0_digest_101 : decode cX0_digest 101 = .ok (.aload_n 0, 1) := by decide +kernel
theorem dX0_digest_102 : decode cX0_digest 102 = .ok (.iload_n 3, 1) := by decide +kernel
theorem dX0_digest_103 : decode cX0_digest 103 = .ok (.invokevirtual 210, 3) := by decide +kernel
theorem dX0_digest_106 : decode cX0_digest 106 = .ok (.invokestatic 185, 3) := by decide +kernel
theorem dX0_digest_109 : decode cX0_digest 109 = .ok (.lstore_n 1, 1) := by decide +kernel
theorem dX0_digest_110 : decode cX0_digest 110 = .ok (.lload_n 1, 1) := by decide +kernel
theorem dX0_digest_111 : decode cX0_digest 111 = .ok (.aload_n 0, 1) := by decide +kernel
theorem dX0_digest_112 : decode cX0_digest 112 = .ok (.iload_n 3, 1) := by decide +kernel
theorem dX0_digest_113 : decode cX0_digest 113 = .ok (.invokevirtual 213, 3) := by decide +kernel
theorem dX0_digest_116 : decode cX0_digest 116 = .ok (.invokestatic 185, 3) := by decide +kernel
theorem dX0_digest_119 : decode cX0_digest 119 = .ok (.lstore_n 1, 1) := by decide +kernel
theorem dX0_digest_120 : decode cX0_digest 120 = .ok (.iinc 3 1, 3) := by decide +kernel
theorem dX0_digest_123 : decode cX0_digest 123 = .ok (.goto (-31), 3) := by decide +kernel
theorem dX0_digest_126 : decode cX0_digest 126 = .ok (.lload_n 1, 1) := by decide +kernel
theorem dX0_digest_127 : decode cX0_digest 127 = .ok (.lreturn, 1) := by decide +kernel
set_option maxRecDepth 20000 in
theorem ggX0_mixPlace_X0_isExam : GoodIn wsX0_mixPlace wsX0_isExam := goodIn_ca (goodIn_r _ [5, 6, 7, 8, 4, 9, 10, 11, 12, 13, 14, 15, 16, 17, 18, 19, 20, 106, 107, 108, 109, 110, 111, 112, 113, 114, 115, 116, 117, 118, 119, 120, 121, 122, 123] (by decide +kernel) (by decide +kernel)) (goodIn_sub (fun _ h => List.mem_cons_of_mem _ (List.mem_append_right _ h)) (by decide +kernel))
set_option maxRecDepth 20000 in
theorem gX0_mixPlace_X0_isExam : GoodIn wsX0_mixPlace (wsV RX0 216 RX0 yX0_isExam wsX0_isExam) := goodIn_app (goodIn_of _ (by decide +kernel)) ggX0_mixPlace_X0_isExam
set_option maxRecDepth 20000 in
theorem ggX0_mixPlace_X0_mix : GoodIn wsX0_mixPlace wsX0_mix := goodIn_r _ [23, 24] (by decide +kernel) (by decide +kernel)
set_option maxRecDepth 20000 in
theorem gX0_mixPlace_X0_mix : GoodIn wsX0_mixPlace (va_wsS RX0 185 yX0_mix wsX0_mix) := goodIn_app (goodIn_of _ (by decide +kernel)) ggX0_mixPlace_X0_mix
set_option maxRecDepth 20000 in
theorem ggX0_mixPlace_X0_sureGrade : GoodIn wsX0_mixPlace wsX0_sureGrade := goodIn_ca (goodIn_r _ [28, 29, 6, 7, 8, 4, 9, 10, 11, 12, 30, 31, 32, 106, 107, 108, 109, 110, 111, 112, 113, 114, 115, 116, 117, 118, 119, 120, 121, 122, 123] (by decide +kernel) (by decide +kernel)) (goodIn_sub (fun _ h => List.mem_cons_of_mem _ (List.mem_append_right _ h)) (by decide +kernel))
set_option maxRecDepth 20000 in
theorem gX0_mixPlace_X0_sureGrade : GoodIn wsX0_mixPlace (wsV RX0 219 RX0 yX0_sureGrade wsX0_sureGrade) := goodIn_app (goodIn_of _ (by decide +kernel)) ggX0_mixPlace_X0_sureGrade
set_option maxRecDepth 20000 in
theorem ggX0_mixPlace_X0_hope : GoodIn wsX0_mixPlace wsX0_hope := goodIn_ca (goodIn_r _ [36, 37, 6, 7, 8, 4, 9, 10, 11, 12, 30, 31, 32, 106, 107, 108, 109, 110, 111, 112, 113, 114, 115, 116, 117, 118, 119, 120, 121, 122, 123] (by decide +kernel) (by decide +kernel)) (goodIn_sub (fun _ h => List.mem_cons_of_mem _ (List.mem_append_right _ h)) (by decide +kernel))
set_option maxRecDepth 20000 in
theorem gX0_mixPlace_X0_hope : GoodIn wsX0_mixPlace (wsV RX0 222 RX0 yX0_hope wsX0_hope) := goodIn_app (goodIn_of _ (by decide +kernel)) ggX0_mixPlace_X0_hope
set_option maxRecDepth 20000 in
theorem ggX0_mixPlace_X0_examsFrom : GoodIn wsX0_mixPlace wsX0_examsFrom := goodIn_ca (goodIn_r _ [41, 42, 17, 6, 7, 8, 4, 9, 10, 11, 12, 43, 44, 45, 46, 47, 48, 49, 50, 51, 52, 106, 107, 108, 109, 110, 111, 112, 113, 114, 115, 116, 117, 118, 119, 120, 121, 122, 123] (by decide +kernel) (by decide +kernel)) (goodIn_sub (fun _ h => List.mem_cons_of_mem _ (List.mem_append_right _ h)) (by decide +kernel))
set_option maxRecDepth 20000 in
theorem gX0_mixPlace_X0_examsFrom : GoodIn wsX0_mixPlace (wsV RX0 225 RX0 yX0_examsFrom wsX0_examsFrom) := goodIn_app (goodIn_of _ (by decide +kernel)) ggX0_mixPlace_X0_examsFrom
set_option maxRecDepth 20000 in
theorem ggX0_mixPlace_X0_planLeadsTo : GoodIn wsX0_mixPlace wsX0_planLeadsTo := goodIn_ca (goodIn_r _ [56, 6, 7, 8, 4, 9, 10, 11, 12, 13, 14, 15, 16, 17, 18, 19, 20, 57, 58, 59, 60, 61, 62, 63, 64, 29, 37, 65, 66, 67, 68, 69, 70, 71, 72, 73, 74, 75, 30, 31, 32, 106, 107, 108, 109, 110, 111, 112, 113, 114, 115, 116, 117, 118, 119, 120, 121, 122, 123] (by decide +kernel) (by decide +kernel)) (goodIn_sub (fun _ h => List.mem_cons_of_mem _ (List.mem_append_right _ h)) (by decide +kernel))
set_option maxRecDepth 20000 in
theorem gX0_mixPlace_X0_planLeadsTo : GoodIn wsX0_mixPlace (wsV RX0 228 RX0 yX0_planLeadsTo wsX0_planLeadsTo) := goodIn_app (goodIn_of _ (by decide +kernel)) ggX0_mixPlace_X0_planLeadsTo
set_option maxRecDepth 20000 in
theorem ggX0_mixPlace_X0_holdsExam : GoodIn wsX0_mixPlace wsX0_holdsExam := goodIn_r _ [16, 17, 18, 19, 4, 20, 106, 107, 108, 109, 110, 111, 112, 113, 114, 115, 116, 117, 118, 119, 120, 121, 122, 123] (by decide +kernel) (by decide +kernel)
set_option maxRecDepth 20000 in
theorem gX0_mixPlace_X0_holdsExam : GoodIn wsX0_mixPlace (wsV RX0 135 RX0 yX0_holdsExam wsX0_holdsExam) := goodIn_app (goodIn_of _ (by decide +kernel)) ggX0_mixPlace_X0_holdsExam
set_option maxRecDepth 20000 in
theorem ggX0_mixPlace_X0_gradeOf : GoodIn wsX0_mixPlace wsX0_gradeOf := goodIn_ca (goodIn_r _ [79, 80, 81, 82, 83, 4, 84, 10, 11, 6, 7, 8, 9, 12, 13, 14, 15, 16, 17, 18, 19, 20, 30, 31, 32, 106, 107, 108, 109, 110, 111, 112, 113, 114, 115, 116, 117, 118, 119, 120, 121, 122, 123] (by decide +kernel) (by decide +kernel)) (goodIn_sub (fun _ h => List.mem_cons_of_mem _ (List.mem_append_right _ h)) (by decide +kernel))
set_option maxRecDepth 20000 in
theorem gX0_mixPlace_X0_gradeOf : GoodIn wsX0_mixPlace (wsV RX0 231 RX0 yX0_gradeOf wsX0_gradeOf) := goodIn_app (goodIn_of _ (by decide +kernel)) ggX0_mixPlace_X0_gradeOf
set_option maxRecDepth 20000 in
theorem ggX0_mixPlace_X0_leftOf : GoodIn wsX0_mixPlace wsX0_leftOf := goodIn_ca (goodIn_r _ [88, 75, 89, 90, 91, 4, 92, 10, 11, 6, 7, 8, 9, 12, 13, 14, 15, 16, 17, 18, 19, 20, 30, 31, 32, 106, 107, 108, 109, 110, 111, 112, 113, 114, 115, 116, 117, 118, 119, 120, 121, 122, 123] (by decide +kernel) (by decide +kernel)) (goodIn_sub (fun _ h => List.mem_cons_of_mem _ (List.mem_append_right _ h)) (by decide +kernel))
set_option maxRecDepth 20000 in
theorem gX0_mixPlace_X0_leftOf : GoodIn wsX0_mixPlace (wsV RX0 234 RX0 yX0_leftOf wsX0_leftOf) := goodIn_app (goodIn_of _ (by decide +kernel)) ggX0_mixPlace_X0_leftOf
set_option maxRecDepth 20000 in
theorem ggX0_mixPlace_X0_rightOf : GoodIn wsX0_mixPlace wsX0_rightOf := goodIn_ca (goodIn_r _ [96, 74, 89, 90, 91, 4, 92, 10, 11, 6, 7, 8, 9, 12, 13, 14, 15, 16, 17, 18, 19, 20, 30, 31, 32, 106, 107, 108, 109, 110, 111, 112, 113, 114, 115, 116, 117, 118, 119, 120, 121, 122, 123] (by decide +kernel) (by decide +kernel)) (goodIn_sub (fun _ h => List.mem_cons_of_mem _ (List.mem_append_right _ h)) (by decide +kernel))
set_option maxRecDepth 20000 in
theorem gX0_mixPlace_X0_rightOf : GoodIn wsX0_mixPlace (wsV RX0 237 RX0 yX0_rightOf wsX0_rightOf) := goodIn_app (goodIn_of _ (by decide +kernel)) ggX0_mixPlace_X0_rightOf
set_option maxRecDepth 20000 in
theorem ggX0_mixPlace_X0_weightOf : GoodIn wsX0_mixPlace wsX0_weightOf := goodIn_ca (goodIn_r _ [100, 69, 89, 90, 91, 4, 92, 10, 11, 6, 7, 8, 9, 12, 13, 14, 15, 16, 17, 18, 19, 20, 30, 31, 32, 106, 107, 108, 109, 110, 111, 112, 113, 114, 115, 116, 117, 118, 119, 120, 121, 122, 123] (by decide +kernel) (by decide +kernel)) (goodIn_sub (fun _ h => List.mem_cons_of_mem _ (List.mem_append_right _ h)) (by decide +kernel))
set_option maxRecDepth 20000 in
theorem gX0_mixPlace_X0_weightOf : GoodIn wsX0_mixPlace (wsV RX0 240 RX0 yX0_weightOf wsX0_weightOf) := goodIn_app (goodIn_of _ (by decide +kernel)) ggX0_mixPlace_X0_weightOf
set_option maxRecDepth 20000 in
theorem ggX0_mixPlace_X0_hindsight : GoodIn wsX0_mixPlace wsX0_hindsight := goodIn_ca (goodIn_r _ [104, 105, 89, 90, 91, 4, 92, 10, 11, 6, 7, 8, 9, 12, 13, 14, 15, 16, 17, 18, 19, 20, 30, 31, 32, 106, 107, 108, 109, 110, 111, 112, 113, 114, 115, 116, 117, 118, 119, 120, 121, 122, 123] (by decide +kernel) (by decide +kernel)) (goodIn_sub (fun _ h => List.mem_cons_of_mem _ (List.mem_append_right _ h)) (by decide +kernel))
set_option maxRecDepth 20000 in
theorem gX0_mixPlace_X0_hindsight : GoodIn wsX0_mixPlace (wsV RX0 243 RX0 yX0_hindsight wsX0_hindsight) := goodIn_app (goodIn_of _ (by decide +kernel)) ggX0_mixPlace_X0_hindsight
theorem dX0_mixPlace_0 : decode cX0_mixPlace 0 = .ok (.lload_n 1, 1) := by decide +kernel
theorem dX0_mixPlace_1 : decode cX0_mixPlace 1 = .ok (.aload_n 0, 1) := by decide +kernel
theorem dX0_mixPlace_2 : decode cX0_mixPlace 2 = .ok (.iload_n 3, 1) := by decide +kernel
theorem dX0_mixPlace_3 : decode cX0_mixPlace 3 = .ok (.invokevirtual 216, 3) := by decide +kernel
theorem dX0_mixPlace_6 : decode cX0_mixPlace 6 = .ok (.ifCond .eq 7, 3) := by decide +kernel
theorem dX0_mixPlace_9 : decode cX0_mixPlace 9 = .ok (.iconst 1, 1) := by decide +kernel
theorem dX0_mixPlace_10 : decode cX0_mixPlace 10 = .ok (.goto 4, 3) := by decide +kernel
theorem dX0_mixPlace_13 : decode cX0_mixPlace 13 = .ok (.iconst 0, 1) := by decide +kernel
theorem dX0_mixPlace_14 : decode cX0_mixPlace 14 = .ok (.invokestatic 185, 3) := by decide +kernel
theorem dX0_mixPlace_17 : decode cX0_mixPlace 17 = .ok (.lstore 4, 2) := by decide +kernel
theorem dX0_mixPlace_19 : decode cX0_mixPlace 19 = .ok (.lload 4, 2) := by decide +kernel
theorem dX0_mixPlace_21 : decode cX0_mixPlace 21 = .ok (.aload_n 0, 1) := by decide +kernel
theorem dX0_mixPlace_22 : decode cX0_mixPlace 22 = .ok (.iload_n 3, 1) := by decide +kernel
theorem dX0_mixPlace_23 : decode cX0_mixPlace 23 = .ok (.invokevirtual 219, 3) := by decide +kernel
theorem dX0_mixPlace_26 : decode cX0_mixPlace 26 = .ok (.invokestatic 185, 3) := by decide +kernel
theorem dX0_mixPlace_29 : decode cX0_mixPlace 29 = .ok (.lstore 4, 2) := by decide +kernel
theorem dX0_mixPlace_31 : decode cX0_mixPlace 31 = .ok (.lload 4, 2) := by decide +kernel
theorem dX0_mixPlace_33 : decode cX0_mixPlace 33 = .ok (.aload_n 0, 1) := by decide +kernel
theorem dX0_mixPlace_34 : decode cX0_mixPlace 34 = .ok (.iload_n 3, 1) := by decide +kernel
theorem dX0_mixPlace_35 : decode cX0_mixPlace 35 = .ok (.invokevirtual 222, 3) := by decide +kernel
theorem dX0_mixPlace_38 : decode cX0_mixPlace 38 = .ok (.invokestatic 185, 3) := by decide +kernel
theorem dX0_mixPlace_41 : decode cX0_mixPlace 41 = .ok (.lstore 4, 2) := by decide +kernel
theorem dX0_mixPlace_43 : decode cX0_mixPlace 43 = .ok (.lload 4, 2) := by decide +kernel
theorem dX0_mixPlace_45 : decode cX0_mixPlace 45 = .ok (.aload_n 0, 1) := by decide +kernel
theorem dX0_mixPlace_46 : decode cX0_mixPlace 46 = .ok (.iload_n 3, 1) := by decide +kernel
theorem dX0_mixPlace_47 : decode cX0_mixPlace 47 = .ok (.invokevirtual 225, 3) := by decide +kernel
theorem dX0_mixPlace_50 : decode cX0_mixPlace 50 = .ok (.invokestatic 185, 3) := by decide +kernel
theorem dX0_mixPlace_53 : decode cX0_mixPlace 53 = .ok (.lstore 4, 2) := by decide +kernel
theorem dX0_mixPlace_55 : decode cX0_mixPlace 55 = .ok (.lload 4, 2) := by decide +kernel
theorem dX0_mixPlace_57 : decode cX0_mixPlace 57 = .ok (.aload_n 0, 1) := by decide +kernel
theorem dX0_mixPlace_58 : decode cX0_mixPlace 58 = .ok (.iload_n 3, 1) := by decide +kernel
theorem dX0_mixPlace_59 : decode cX0_mixPlace 59 = .ok (.invokevirtual 228, 3) := by decide +kernel
theorem dX0_mixPlace_62 : decode cX0_mixPlace 62 = .ok (.invokestatic 185, 3) := by decide +kernel
theorem dX0_mixPlace_65 : decode cX0_mixPlace 65 = .ok (.lstore 4, 2) := by decide +kernel
theorem dX0_mixPlace_67 : decode cX0_mixPlace 67 = .ok (.aload_n 0, 1) := by decide +kernel
theorem dX0_mixPlace_68 : decode cX0_mixPlace 68 = .ok (.iload_n 3, 1) := by decide +kernel
theorem dX0_mixPlace_69 : decode cX0_mixPlace 69 = .ok (.invokevirtual 135, 3) := by decide +kernel
theorem dX0_mixPlace_72 : decode cX0_mixPlace 72 = .ok (.ifCond .eq 14, 3) := by decide +kernel
theorem dX0_mixPlace_75 : decode cX0_mixPlace 75 = .ok (.lload 4, 2) := by decide +kernel
theorem dX0_mixPlace_77 : decode cX0_mixPlace 77 = .ok (.aload_n 0, 1) := by decide +kernel
theorem dX0_mixPlace_78 : decode cX0_mixPlace 78 = .ok (.iload_n 3, 1) := by decide +kernel
theorem dX0_mixPlace_79 : decode cX0_mixPlace 79 = .ok (.invokevirtual 231, 3) := by decide +kernel
theorem dX0_mixPlace_82 : decode cX0_mixPlace 82 = .ok (.invokestatic 185, 3) := by decide +kernel
theorem dX0_mixPlace_85 : decode cX0_mixPlace 85 = .ok (.lreturn, 1) := by decide +kernel
theorem dX0_mixPlace_86 : decode cX0_mixPlace 86 = .ok (.lload 4, 2) := by decide +kernel
theorem dX0_mixPlace_88 : decode cX0_mixPlace 88 = .ok (.aload_n 0, 1) := by decide +kernel
theorem dX0_mixPlace_89 : decode cX0_mixPlace 89 = .ok (.iload_n 3, 1) := by decide +kernel
theorem dX0_mixPlace_90 : decode cX0_mixPlace 90 = .ok (.invokevirtual 234, 3) := by decide +kernel
theorem dX0_mixPlace_93 : decode cX0_mixPlace 93 = .ok (.invokestatic 185, 3) := by decide +kernel
theorem dX0_mixPlace_96 : decode cX0_mixPlace 96 = .ok (.lstore 4, 2) := by decide +kernel
theorem dX0_mixPlace_98 : decode cX0_mixPlace 98 = .ok (.lload 4, 2) := by decide +kernel
theorem dX0_mixPlace_100 : decode cX0_mixPlace 100 = .ok (.aload_n 0, 1) := by decide +kernel
theorem dX0_mixPlace_101 : decode cX0_mixPlace 101 = .ok (.iload_n 3, 1) := by decide +kernel
theorem dX0_mixPlace_102 : decode cX0_mixPlace 102 = .ok (.invokevirtual 237, 3) := by decide +kernel
theorem dX0_mixPlace_105 : decode cX0_mixPlace 105 = .ok (.invokestatic 185, 3) := by decide +kernel
theorem dX0_mixPlace_108 : decode cX0_mixPlace 108 = .ok (.lstore 4, 2) := by decide +kernel
theorem dX0_mixPlace_110 : decode cX0_mixPlace 110 = .ok (.lload 4, 2) := by decide +kernel
theorem dX0_mixPlace_112 : decode cX0_mixPlace 112 = .ok (.aload_n 0, 1) := by decide +kernel
theorem dX0_mixPlace_113 : decode cX0_mixPlace 113 = .ok (.iload_n 3, 1) := by decide +kernel
theorem dX0_mixPlace_114 : decode cX0_mixPlace 114 = .ok (.invokevirtual 240, 3) := by decide +kernel
theorem dX0_mixPlace_117 : decode cX0_mixPlace 117 = .ok (.invokestatic 185, 3) := by decide +kernel
theorem dX0_mixPlace_120 : decode cX0_mixPlace 120 = .ok (.lstore 4, 2) := by decide +kernel
theorem dX0_mixPlace_122 : decode cX0_mixPlace 122 = .ok (.lload 4, 2) := by decide +kernel
theorem dX0_mixPlace_124 : decode cX0_mixPlace 124 = .ok (.aload_n 0, 1) := by decide +kernel
theorem dX0_mixPlace_125 : decode cX0_mixPlace 125 = .ok (.iload_n 3, 1) := by decide +kernel
theorem dX0_mixPlace_126 : decode cX0_mixPlace 126 = .ok (.invokevirtual 243, 3) := by decide +kernel
theorem dX0_mixPlace_129 : decode cX0_mixPlace 129 = .ok (.invokestatic 185, 3) := by decide +kernel
theorem dX0_mixPlace_132 : decode cX0_mixPlace 132 = .ok (.lreturn, 1) := by decide +kernel
theorem dX0_mix_0 : decode cX0_mix 0 = .ok (.lload_n 0, 1) := by decide +kernel
theorem dX0_mix_1 : decode cX0_mix 1 = .ok (.ldc2_w 246, 3) := by decide +kernel
theorem dX0_mix_4 : decode cX0_mix 4 = .ok (.lmul, 1) := by decide +kernel
theorem dX0_mix_5 : decode cX0_mix 5 = .ok (.iload_n 2, 1) := by decide +kernel
theorem dX0_mix_6 : decode cX0_mix 6 = .ok (.i2l, 1) := by decide +kernel
theorem dX0_mix_7 : decode cX0_mix 7 = .ok (.ladd, 1) := by decide +kernel
theorem dX0_mix_8 : decode cX0_mix 8 = .ok (.lreturn, 1) := by decide +kernel
theorem dX0_requireRoom_0 : decode cX0_requireRoom 0 = .ok (.aload_n 0, 1) := by decide +kernel
theorem dX0_requireRoom_1 : decode cX0_requireRoom 1 = .ok (.getfield 60, 3) := by decide +kernel
theorem dX0_requireRoom_4 : decode cX0_requireRoom 4 = .ok (.bipush 40, 2) := by decide +kernel
theorem dX0_requireRoom_6 : decode cX0_requireRoom 6 = .ok (.if_icmp .lt 13, 3) := by decide +kernel
theorem dX0_requireRoom_9 : decode cX0_requireRoom 9 = .ok (.new 110, 3) := by decide +kernel
theorem dX0_requireRoom_12 : decode cX0_requireRoom 12 = .ok (.dup, 1) := by decide +kernel
theorem dX0_requireRoom_13 : decode cX0_requireRoom 13 = .ok (.ldc 248, 2) := by decide +kernel
theorem dX0_requireRoom_15 : decode cX0_requireRoom 15 = .ok (.invokespecial 114, 3) := by decide +kernel
theorem dX0_requireRoom_18 : decode cX0_requireRoom 18 = .ok (.athrow, 1) := by decide +kernel
theorem dX0_requireRoom_19 : decode cX0_requireRoom 19 = .ok (.return_, 1) := by decide +kernel
theorem dX0_requirePlace_0 : decode cX0_requirePlace 0 = .ok (.iload_n 1, 1) := by decide +kernel
theorem dX0_requirePlace_1 : decode cX0_requirePlace 1 = .ok (.ifCond .lt 11, 3) := by decide +kernel
theorem dX0_requirePlace_4 : decode cX0_requirePlace 4 = .ok (.iload_n 1, 1) := by decide +kernel
theorem dX0_requirePlace_5 : decode cX0_requirePlace 5 = .ok (.aload_n 0, 1) := by decide +kernel
theorem dX0_requirePlace_6 : decode cX0_requirePlace 6 = .ok (.getfield 60, 3) := by decide +kernel
theorem dX0_requirePlace_9 : decode cX0_requirePlace 9 = .ok (.if_icmp .lt 13, 3) := by decide +kernel
theorem dX0_requirePlace_12 : decode cX0_requirePlace 12 = .ok (.new 250, 3) := by decide +kernel
theorem dX0_requirePlace_15 : decode cX0_requirePlace 15 = .ok (.dup, 1) := by decide +kernel
theorem dX0_requirePlace_16 : decode cX0_requirePlace 16 = .ok (.ldc 252, 2) := by decide +kernel
theorem dX0_requirePlace_18 : decode cX0_requirePlace 18 = .ok (.invokespecial 254, 3) := by decide +kernel
theorem dX0_requirePlace_21 : decode cX0_requirePlace 21 = .ok (.athrow, 1) := by decide +kernel
theorem dX0_requirePlace_22 : decode cX0_requirePlace 22 = .ok (.return_, 1) := by decide +kernel
set_option maxRecDepth 20000 in
theorem ggX0_requireExam_X0_requirePlace : GoodIn wsX0_requireExam wsX0_requirePlace := goodIn_ca (goodIn_r _ [7, 1, 2, 8, 17, 18, 19, 20, 21, 22, 23, 24, 25, 26, 27, 28, 29, 30, 31, 32, 33, 34] (by decide +kernel) (by decide +kernel)) (goodIn_sub (fun _ h => List.mem_cons_of_mem _ (List.mem_append_right _ h)) (by decide +kernel))
set_option maxRecDepth 20000 in
theorem gX0_requireExam_X0_requirePlace : GoodIn wsX0_requireExam (wsV RX0 84 RX0 yX0_requirePlace wsX0_requirePlace) := goodIn_app (goodIn_of _ (by decide +kernel)) ggX0_requireExam_X0_requirePlace
set_option maxRecDepth 20000 in
theorem ggX0_requireExam_X0_holdsExam : GoodIn wsX0_requireExam wsX0_holdsExam := goodIn_r _ [12, 13, 14, 15, 6, 16, 17, 18, 19, 20, 21, 22, 23, 24, 25, 26, 27, 28, 29, 30, 31, 32, 33, 34] (by decide +kernel) (by decide +kernel)
set_option maxRecDepth 20000 in
theorem gX0_requireExam_X0_holdsExam : GoodIn wsX0_requireExam (wsV RX0 135 RX0 yX0_holdsExam wsX0_holdsExam) := goodIn_app (goodIn_of _ (by decide +kernel)) ggX0_requireExam_X0_holdsExam
theorem dX0_requireExam_0 : decode cX0_requireExam 0 = .ok (.aload_n 0, 1) := by decide +kernel
theorem dX0_requireExam_1 : decode cX0_requireExam 1 = .ok (.iload_n 1, 1) := by decide +kernel
theorem dX0_requireExam_2 : decode cX0_requireExam 2 = .ok (.invokevirtual 84, 3) := by decide +kernel
theorem dX0_requireExam_5 : decode cX0_requireExam 5 = .ok (.aload_n 0, 1) := by decide +kernel
theorem dX0_requireExam_6 : decode cX0_requireExam 6 = .ok (.iload_n 1, 1) := by decide +kernel
theorem dX0_requireExam_7 : decode cX0_requireExam 7 = .ok (.invokevirtual 135, 3) := by decide +kernel
theorem dX0_requireExam_10 : decode cX0_requireExam 10 = .ok (.ifCond .ne 13, 3) := by decide +kernel
theorem dX0_requireExam_13 : decode cX0_requireExam 13 = .ok (.new 250, 3) := by decide +kernel
theorem dX0_requireExam_16 : decode cX0_requireExam 16 = .ok (.dup, 1) := by decide +kernel
theorem dX0_requireExam_17 : decode cX0_requireExam 17 = .ok (.ldc 255, 2) := by decide +kernel
theorem dX0_requireExam_19 : decode cX0_requireExam 19 = .ok (.invokespecial 254, 3) := by decide +kernel
theorem dX0_requireExam_22 : decode cX0_requireExam 22 = .ok (.athrow, 1) := by decide +kernel
theorem dX0_requireExam_23 : decode cX0_requireExam 23 = .ok (.return_, 1) := by decide +kernel
set_option maxRecDepth 20000 in
theorem ggX0_requireFork_X0_requirePlace : GoodIn wsX0_requireFork wsX0_requirePlace := goodIn_ca (goodIn_r _ [7, 1, 2, 8, 17, 18, 19, 20, 21, 22, 23, 24, 25, 26, 27, 28, 29, 30, 31, 32, 33, 34] (by decide +kernel) (by decide +kernel)) (goodIn_sub (fun _ h => List.mem_cons_of_mem _ (List.mem_append_right _ h)) (by decide +kernel))
set_option maxRecDepth 20000 in
theorem gX0_requireFork_X0_requirePlace : GoodIn wsX0_requireFork (wsV RX0 84 RX0 yX0_requirePlace wsX0_requirePlace) := goodIn_app (goodIn_of _ (by decide +kernel)) ggX0_requireFork_X0_requirePlace
set_option maxRecDepth 20000 in
theorem ggX0_requireFork_X0_holdsExam : GoodIn wsX0_requireFork wsX0_holdsExam := goodIn_r _ [12, 13, 14, 15, 6, 16, 17, 18, 19, 20, 21, 22, 23, 24, 25, 26, 27, 28, 29, 30, 31, 32, 33, 34] (by decide +kernel) (by decide +kernel)
set_option maxRecDepth 20000 in
theorem gX0_requireFork_X0_holdsExam : GoodIn wsX0_requireFork (wsV RX0 135 RX0 yX0_holdsExam wsX0_holdsExam) := goodIn_app (goodIn_of _ (by decide +kernel)) ggX0_requireFork_X0_holdsExam
theorem dX0_requireFork_0 : decode cX0_requireFork 0 = .ok (.aload_n 0, 1) := by decide +kernel
theorem dX0_requireFork_1 : decode cX0_requireFork 1 = .ok (.iload_n 1, 1) := by decide +kernel
theorem dX0_requireFork_2 : decode cX0_requireFork 2 = .ok (.invokevirtual 84, 3) := by decide +kernel
theorem dX0_requireFork_5 : decode cX0_requireFork 5 = .ok (.aload_n 0, 1) := by decide +kernel
theorem dX0_requireFork_6 : decode cX0_requireFork 6 = .ok (.iload_n 1, 1) := by decide +kernel
theorem dX0_requireFork_7 : decode cX0_requireFork 7 = .ok (.invokevirtual 135, 3) := by decide +kernel
theorem dX0_requireFork_10 : decode cX0_requireFork 10 = .ok (.ifCond .eq 14, 3) := by decide +kernel
theorem dX0_requireFork_13 : decode cX0_requireFork 13 = .ok (.new 250, 3) := by decide +kernel
theorem dX0_requireFork_16 : decode cX0_requireFork 16 = .ok (.dup, 1) := by decide +kernel
theorem dX0_requireFork_17 : decode cX0_requireFork 17 = .ok (.ldc_w 257, 3) := by decide +kernel
theorem dX0_requireFork_20 : decode cX0_requireFork 20 = .ok (.invokespecial 254, 3) := by decide +kernel
theorem dX0_requireFork_23 : decode cX0_requireFork 23 = .ok (.athrow, 1) := by decide +kernel
theorem dX0_requireFork_24 : decode cX0_requireFork 24 = .ok (.return_, 1) := by decide +kernel
theorem dX0_requireWeight_0 : decode cX0_requireWeight 0 = .ok (.iload_n 0, 1) := by decide +kernel
theorem dX0_requireWeight_1 : decode cX0_requireWeight 1 = .ok (.iconst 1, 1) := by decide +kernel
theorem dX0_requireWeight_2 : decode cX0_requireWeight 2 = .ok (.if_icmp .lt 9, 3) := by decide +kernel
theorem dX0_requireWeight_5 : decode cX0_requireWeight 5 = .ok (.iload_n 0, 1) := by decide +kernel
theorem dX0_requireWeight_6 : decode cX0_requireWeight 6 = .ok (.bipush 9, 2) := by decide +kernel
theorem dX0_requireWeight_8 : decode cX0_requireWeight 8 = .ok (.if_icmp .le 14, 3) := by decide +kernel
theorem dX0_requireWeight_11 : decode cX0_requireWeight 11 = .ok (.new 50, 3) := by decide +kernel
theorem dX0_requireWeight_14 : decode cX0_requireWeight 14 = .ok (.dup, 1) := by decide +kernel
theorem dX0_requireWeight_15 : decode cX0_requireWeight 15 = .ok (.ldc_w 259, 3) := by decide +kernel
theorem dX0_requireWeight_18 : decode cX0_requireWeight 18 = .ok (.invokespecial 54, 3) := by decide +kernel
theorem dX0_requireWeight_21 : decode cX0_requireWeight 21 = .ok (.athrow, 1) := by decide +kernel
theorem dX0_requireWeight_22 : decode cX0_requireWeight 22 = .ok (.return_, 1) := by decide +kernel
theorem dX0_requireStudent_0 : decode cX0_requireStudent 0 = .ok (.iload_n 1, 1) := by decide +kernel
theorem dX0_requireStudent_1 : decode cX0_requireStudent 1 = .ok (.ifCond .lt 11, 3) := by decide +kernel
theorem dX0_requireStudent_4 : decode cX0_requireStudent 4 = .ok (.iload_n 1, 1) := by decide +kernel
theorem dX0_requireStudent_5 : decode cX0_requireStudent 5 = .ok (.aload_n 0, 1) := by decide +kernel
theorem dX0_requireStudent_6 : decode cX0_requireStudent 6 = .ok (.getfield 127, 3) := by decide +kernel
theorem dX0_requireStudent_9 : decode cX0_requireStudent 9 = .ok (.if_icmp .lt 14, 3) := by decide +kernel
theorem dX0_requireStudent_12 : decode cX0_requireStudent 12 = .ok (.new 250, 3) := by decide +kernel
theorem dX0_requireStudent_15 : decode cX0_requireStudent 15 = .ok (.dup, 1) := by decide +kernel
theorem dX0_requireStudent_16 : decode cX0_requireStudent 16 = .ok (.ldc_w 261, 3) := by decide +kernel
theorem dX0_requireStudent_19 : decode cX0_requireStudent 19 = .ok (.invokespecial 254, 3) := by decide +kernel
theorem dX0_requireStudent_22 : decode cX0_requireStudent 22 = .ok (.athrow, 1) := by decide +kernel
theorem dX0_requireStudent_23 : decode cX0_requireStudent 23 = .ok (.return_, 1) := by decide +kernel
set_option maxRecDepth 20000 in
theorem ggX0_requireGraded_X0_at : GoodIn wsX0_requireGraded wsX0_at := goodIn_r _ [7] (by decide +kernel) (by decide +kernel)
set_option maxRecDepth 20000 in
theorem gX0_requireGraded_X0_at : GoodIn wsX0_requireGraded (va_wsS RX0 100 yX0_at wsX0_at) := goodIn_app (goodIn_of _ (by decide +kernel)) ggX0_requireGraded_X0_at
set_option maxRecDepth 20000 in
theorem ggX0_requireGraded_X0_hasGrade : GoodIn wsX0_requireGraded wsX0_hasGrade := goodIn_r _ [11, 12, 4, 5, 6, 7, 13, 14, 15, 16, 17, 18, 19, 20, 21, 22, 23, 24, 25, 26, 27, 28, 29, 30] (by decide +kernel) (by decide +kernel)
set_option maxRecDepth 20000 in
theorem gX0_requireGraded_X0_hasGrade : GoodIn wsX0_requireGraded (wsV RX0 106 RX0 yX0_hasGrade wsX0_hasGrade) := goodIn_app (goodIn_of _ (by decide +kernel)) ggX0_requireGraded_X0_hasGrade
theorem dX0_requireGraded_0 : decode cX0_requireGraded 0 = .ok (.aload_n 0, 1) := by decide +kernel
theorem dX0_requireGraded_1 : decode cX0_requireGraded 1 = .ok (.aload_n 0, 1) := by decide +kernel
theorem dX0_requireGraded_2 : decode cX0_requireGraded 2 = .ok (.getfield 41, 3) := by decide +kernel
theorem dX0_requireGraded_5 : decode cX0_requireGraded 5 = .ok (.iload_n 1, 1) := by decide +kernel
theorem dX0_requireGraded_6 : decode cX0_requireGraded 6 = .ok (.invokestatic 100, 3) := by decide +kernel
theorem dX0_requireGraded_9 : decode cX0_requireGraded 9 = .ok (.invokevirtual 106, 3) := by decide +kernel
theorem dX0_requireGraded_12 : decode cX0_requireGraded 12 = .ok (.ifCond .ne 14, 3) := by decide +kernel
theorem dX0_requireGraded_15 : decode cX0_requireGraded 15 = .ok (.new 110, 3) := by decide +kernel
theorem dX0_requireGraded_18 : decode cX0_requireGraded 18 = .ok (.dup, 1) := by decide +kernel
theorem dX0_requireGraded_19 : decode cX0_requireGraded 19 = .ok (.ldc_w 263, 3) := by decide +kernel
theorem dX0_requireGraded_22 : decode cX0_requireGraded 22 = .ok (.invokespecial 114, 3) := by decide +kernel
theorem dX0_requireGraded_25 : decode cX0_requireGraded 25 = .ok (.athrow, 1) := by decide +kernel
theorem dX0_requireGraded_26 : decode cX0_requireGraded 26 = .ok (.return_, 1) := by decide +kernel
set_option maxRecDepth 20000 in
theorem ggX0_holdsExam_X0_bitOf : GoodIn wsX0_holdsExam wsX0_bitOf := goodIn_r _ [5] (by decide +kernel) (by decide +kernel)
set_option maxRecDepth 20000 in
theorem gX0_holdsExam_X0_bitOf : GoodIn wsX0_holdsExam (va_wsS RX0 68 yX0_bitOf wsX0_bitOf) := goodIn_app (goodIn_of _ (by decide +kernel)) ggX0_holdsExam_X0_bitOf
theorem dX0_holdsExam_0 : decode cX0_holdsExam 0 = .ok (.aload_n 0, 1) := by decide +kernel
theorem dX0_holdsExam_1 : decode cX0_holdsExam 1 = .ok (.getfield 64, 3) := by decide +kernel
theorem dX0_holdsExam_4 : decode cX0_holdsExam 4 = .ok (.iload_n 1, 1) := by decide +kernel
theorem dX0_holdsExam_5 : decode cX0_holdsExam 5 = .ok (.invokestatic 68, 3) := by decide +kernel
theorem dX0_holdsExam_8 : decode cX0_holdsExam 8 = .ok (.land, 1) := by decide +kernel
theorem dX0_holdsExam_9 : decode cX0_holdsExam 9 = .ok (.lconst 0, 1) := by decide +kernel
theorem dX0_holdsExam_10 : decode cX0_holdsExam 10 = .ok (.lcmp, 1) := by decide +kernel
theorem dX0_holdsExam_11 : decode cX0_holdsExam 11 = .ok (.ifCond .eq 7, 3) := by decide +kernel
theorem dX0_holdsExam_14 : decode cX0_holdsExam 14 = .ok (.iconst 1, 1) := by decide +kernel
theorem dX0_holdsExam_15 : decode cX0_holdsExam 15 = .ok (.goto 4, 3) := by decide +kernel
theorem dX0_holdsExam_18 : decode cX0_holdsExam 18 = .ok (.iconst 0, 1) := by decide +kernel
theorem dX0_holdsExam_19 : decode cX0_holdsExam 19 = .ok (.ireturn, 1) := by decide +kernel
set_option maxRecDepth 20000 in
theorem ggX0_hasGrade_X0_at : GoodIn wsX0_hasGrade wsX0_at := goodIn_r _ [5] (by decide +kernel) (by decide +kernel)
set_option maxRecDepth 20000 in
theorem gX0_hasGrade_X0_at : GoodIn wsX0_hasGrade (va_wsS RX0 100 yX0_at wsX0_at) := goodIn_app (goodIn_of _ (by decide +kernel)) ggX0_hasGrade_X0_at
theorem dX0_hasGrade_0 : decode cX0_hasGrade 0 = .ok (.aload_n 0, 1) := by decide +kernel
theorem dX0_hasGrade_1 : decode cX0_hasGrade 1 = .ok (.getfield 25, 3) := by decide +kernel
theorem dX0_hasGrade_4 : decode cX0_hasGrade 4 = .ok (.iload_n 1, 1) := by decide +kernel
theorem dX0_hasGrade_5 : decode cX0_hasGrade 5 = .ok (.invokestatic 100, 3) := by decide +kernel
theorem dX0_hasGrade_8 : decode cX0_hasGrade 8 = .ok (.iconst (-1), 1) := by decide +kernel
theorem dX0_hasGrade_9 : decode cX0_hasGrade 9 = .ok (.if_icmp .eq 7, 3) := by decide +kernel
theorem dX0_hasGrade_12 : decode cX0_hasGrade 12 = .ok (.iconst 1, 1) := by decide +kernel
theorem dX0_hasGrade_13 : decode cX0_hasGrade 13 = .ok (.goto 4, 3) := by decide +kernel
theorem dX0_hasGrade_16 : decode cX0_hasGrade 16 = .ok (.iconst 0, 1) := by decide +kernel
theorem dX0_hasGrade_17 : decode cX0_hasGrade 17 = .ok (.ireturn, 1) := by decide +kernel
set_option maxRecDepth 20000 in
theorem ggX0_settleExam_X0_hasGrade : GoodIn wsX0_settleExam wsX0_hasGrade := goodIn_r _ [11, 1, 12, 13, 10, 14, 18, 19, 20, 21, 22, 23, 24, 25, 26, 27, 28, 29, 30, 31, 32, 33, 34, 35] (by decide +kernel) (by decide +kernel)
set_option maxRecDepth 20000 in
theorem gX0_settleExam_X0_hasGrade : GoodIn wsX0_settleExam (wsV RX0 106 RX0 yX0_hasGrade wsX0_hasGrade) := goodIn_app (goodIn_of _ (by decide +kernel)) ggX0_settleExam_X0_hasGrade
set_option maxRecDepth 20000 in
theorem ggX0_settleExam_X0_at : GoodIn wsX0_settleExam wsX0_at := goodIn_r _ [14] (by decide +kernel) (by decide +kernel)
set_option maxRecDepth 20000 in
theorem gX0_settleExam_X0_at : GoodIn wsX0_settleExam (va_wsS RX0 100 yX0_at wsX0_at) := goodIn_app (goodIn_of _ (by decide +kernel)) ggX0_settleExam_X0_at
set_option maxRecDepth 20000 in
theorem ggX0_settleExam_X0_put : GoodIn wsX0_settleExam wsX0_put := goodIn_r _ [17] (by decide +kernel) (by decide +kernel)
set_option maxRecDepth 20000 in
theorem gX0_settleExam_X0_put : GoodIn wsX0_settleExam (va_wsS RX0 72 yX0_put wsX0_put) := goodIn_app (goodIn_of _ (by decide +kernel)) ggX0_settleExam_X0_put
theorem dX0_settleExam_0 : decode cX0_settleExam 0 = .ok (.aload_n 0, 1) := by decide +kernel
theorem dX0_settleExam_1 : decode cX0_settleExam 1 = .ok (.iload_n 1, 1) := by decide +kernel
theorem dX0_settleExam_2 : decode cX0_settleExam 2 = .ok (.invokevirtual 106, 3) := by decide +kernel
theorem dX0_settleExam_5 : decode cX0_settleExam 5 = .ok (.ifCond .ne 7, 3) := by decide +kernel
theorem dX0_settleExam_8 : decode cX0_settleExam 8 = .ok (.iconst 1, 1) := by decide +kernel
theorem dX0_settleExam_9 : decode cX0_settleExam 9 = .ok (.goto 4, 3) := by decide +kernel
theorem dX0_settleExam_12 : decode cX0_settleExam 12 = .ok (.iconst 0, 1) := by decide +kernel
theorem dX0_settleExam_13 : decode cX0_settleExam 13 = .ok (.istore_n 2, 1) := by decide +kernel
theorem dX0_settleExam_14 : decode cX0_settleExam 14 = .ok (.aload_n 0, 1) := by decide +kernel
theorem dX0_settleExam_15 : decode cX0_settleExam 15 = .ok (.getfield 25, 3) := by decide +kernel
theorem dX0_settleExam_18 : decode cX0_settleExam 18 = .ok (.iload_n 1, 1) := by decide +kernel
theorem dX0_settleExam_19 : decode cX0_settleExam 19 = .ok (.invokestatic 100, 3) := by decide +kernel
theorem dX0_settleExam_22 : decode cX0_settleExam 22 = .ok (.istore_n 3, 1) := by decide +kernel
theorem dX0_settleExam_23 : decode cX0_settleExam 23 = .ok (.aload_n 0, 1) := by decide +kernel
theorem dX0_settleExam_24 : decode cX0_settleExam 24 = .ok (.getfield 28, 3) := by decide +kernel
theorem dX0_settleExam_27 : decode cX0_settleExam 27 = .ok (.iload_n 1, 1) := by decide +kernel
theorem dX0_settleExam_28 : decode cX0_settleExam 28 = .ok (.iload_n 2, 1) := by decide +kernel
theorem dX0_settleExam_29 : decode cX0_settleExam 29 = .ok (.ifCond .eq 14, 3) := by decide +kernel
theorem dX0_settleExam_32 : decode cX0_settleExam 32 = .ok (.aload_n 0, 1) := by decide +kernel
theorem dX0_settleExam_33 : decode cX0_settleExam 33 = .ok (.getfield 9, 3) := by decide +kernel
theorem dX0_settleExam_36 : decode cX0_settleExam 36 = .ok (.iload_n 1, 1) := by decide +kernel
theorem dX0_settleExam_37 : decode cX0_settleExam 37 = .ok (.invokestatic 100, 3) := by decide +kernel
theorem dX0_settleExam_40 : decode cX0_settleExam 40 = .ok (.goto 4, 3) := by decide +kernel
theorem dX0_settleExam_43 : decode cX0_settleExam 43 = .ok (.iload_n 3, 1) := by decide +kernel
theorem dX0_settleExam_44 : decode cX0_settleExam 44 = .ok (.invokestatic 72, 3) := by decide +kernel
theorem dX0_settleExam_47 : decode cX0_settleExam 47 = .ok (.aload_n 0, 1) := by decide +kernel
theorem dX0_settleExam_48 : decode cX0_settleExam 48 = .ok (.getfield 31, 3) := by decide +kernel
theorem dX0_settleExam_51 : decode cX0_settleExam 51 = .ok (.iload_n 1, 1) := by decide +kernel
theorem dX0_settleExam_52 : decode cX0_settleExam 52 = .ok (.iload_n 2, 1) := by decide +kernel
theorem dX0_settleExam_53 : decode cX0_settleExam 53 = .ok (.ifCond .eq 14, 3) := by decide +kernel
theorem dX0_settleExam_56 : decode cX0_settleExam 56 = .ok (.aload_n 0, 1) := by decide +kernel
theorem dX0_settleExam_57 : decode cX0_settleExam 57 = .ok (.getfield 13, 3) := by decide +kernel
theorem dX0_settleExam_60 : decode cX0_settleExam 60 = .ok (.iload_n 1, 1) := by decide +kernel
theorem dX0_settleExam_61 : decode cX0_settleExam 61 = .ok (.invokestatic 100, 3) := by decide +kernel
theorem dX0_settleExam_64 : decode cX0_settleExam 64 = .ok (.goto 4, 3) := by decide +kernel
theorem dX0_settleExam_67 : decode cX0_settleExam 67 = .ok (.iload_n 3, 1) := by decide +kernel
theorem dX0_settleExam_68 : decode cX0_settleExam 68 = .ok (.invokestatic 72, 3) := by decide +kernel
theorem dX0_settleExam_71 : decode cX0_settleExam 71 = .ok (.aload_n 0, 1) := by decide +kernel
theorem dX0_settleExam_72 : decode cX0_settleExam 72 = .ok (.getfield 34, 3) := by decide +kernel
theorem dX0_settleExam_75 : decode cX0_settleExam 75 = .ok (.iload_n 1, 1) := by decide +kernel
theorem dX0_settleExam_76 : decode cX0_settleExam 76 = .ok (.iload_n 2, 1) := by decide +kernel
theorem dX0_settleExam_77 : decode cX0_settleExam 77 = .ok (.ifCond .eq 7, 3) := by decide +kernel
theorem dX0_settleExam_80 : decode cX0_settleExam 80 = .ok (.iconst 0, 1) := by decide +kernel
theorem dX0_settleExam_81 : decode cX0_settleExam 81 = .ok (.goto 4, 3) := by decide +kernel
theorem dX0_settleExam_84 : decode cX0_settleExam 84 = .ok (.iload_n 3, 1) := by decide +kernel
theorem dX0_settleExam_85 : decode cX0_settleExam 85 = .ok (.invokestatic 72, 3) := by decide +kernel
theorem dX0_settleExam_88 : decode cX0_settleExam 88 = .ok (.return_, 1) := by decide +kernel
set_option maxRecDepth 20000 in
theorem ggX0_settleFork_X0_settleGreater : GoodIn wsX0_settleFork wsX0_settleGreater := goodIn_r _ [8, 9, 10, 11, 12, 13, 14, 15, 16, 7, 17, 18, 19, 20, 21, 22, 23, 24, 25, 26, 27, 28, 29, 30, 31, 32, 33, 34, 35, 36, 37, 38] (by decide +kernel) (by decide +kernel)
set_option maxRecDepth 20000 in
theorem gX0_settleFork_X0_settleGreater : GoodIn wsX0_settleFork (wsV RX0 265 RX0 yX0_settleGreater wsX0_settleGreater) := goodIn_app (goodIn_of _ (by decide +kernel)) ggX0_settleFork_X0_settleGreater
theorem dX0_settleFork_0 : decode cX0_settleFork 0 = .ok (.aload_n 0, 1) := by decide +kernel
theorem dX0_settleFork_1 : decode cX0_settleFork 1 = .ok (.aload_n 0, 1) := by decide +kernel
theorem dX0_settleFork_2 : decode cX0_settleFork 2 = .ok (.getfield 28, 3) := by decide +kernel
theorem dX0_settleFork_5 : decode cX0_settleFork 5 = .ok (.iload_n 1, 1) := by decide +kernel
theorem dX0_settleFork_6 : decode cX0_settleFork 6 = .ok (.invokevirtual 265, 3) := by decide +kernel
theorem dX0_settleFork_9 : decode cX0_settleFork 9 = .ok (.aload_n 0, 1) := by decide +kernel
theorem dX0_settleFork_10 : decode cX0_settleFork 10 = .ok (.aload_n 0, 1) := by decide +kernel
theorem dX0_settleFork_11 : decode cX0_settleFork 11 = .ok (.getfield 31, 3) := by decide +kernel
theorem dX0_settleFork_14 : decode cX0_settleFork 14 = .ok (.iload_n 1, 1) := by decide +kernel
theorem dX0_settleFork_15 : decode cX0_settleFork 15 = .ok (.invokevirtual 265, 3) := by decide +kernel
theorem dX0_settleFork_18 : decode cX0_settleFork 18 = .ok (.aload_n 0, 1) := by decide +kernel
theorem dX0_settleFork_19 : decode cX0_settleFork 19 = .ok (.aload_n 0, 1) := by decide +kernel
theorem dX0_settleFork_20 : decode cX0_settleFork 20 = .ok (.getfield 34, 3) := by decide +kernel
theorem dX0_settleFork_23 : decode cX0_settleFork 23 = .ok (.iload_n 1, 1) := by decide +kernel
theorem dX0_settleFork_24 : decode cX0_settleFork 24 = .ok (.invokevirtual 265, 3) := by decide +kernel
theorem dX0_settleFork_27 : decode cX0_settleFork 27 = .ok (.return_, 1) := by decide +kernel
set_option maxRecDepth 20000 in
theorem ggX0_settleGreater_X0_at : GoodIn wsX0_settleGreater wsX0_at := goodIn_r _ [10] (by decide +kernel) (by decide +kernel)
set_option maxRecDepth 20000 in
theorem gX0_settleGreater_X0_at : GoodIn wsX0_settleGreater (va_wsS RX0 100 yX0_at wsX0_at) := goodIn_app (goodIn_of _ (by decide +kernel)) ggX0_settleGreater_X0_at
set_option maxRecDepth 20000 in
theorem ggX0_settleGreater_X0_put : GoodIn wsX0_settleGreater wsX0_put := goodIn_r _ [13] (by decide +kernel) (by decide +kernel)
set_option maxRecDepth 20000 in
theorem gX0_settleGreater_X0_put : GoodIn wsX0_settleGreater (va_wsS RX0 72 yX0_put wsX0_put) := goodIn_app (goodIn_of _ (by decide +kernel)) ggX0_settleGreater_X0_put
theorem dX0_settleGreater_0 : decode cX0_settleGreater 0 = .ok (.aload_n 1, 1) := by decide +kernel
theorem dX0_settleGreater_1 : decode cX0_settleGreater 1 = .ok (.iload_n 2, 1) := by decide +kernel
theorem dX0_settleGreater_2 : decode cX0_settleGreater 2 = .ok (.aload_n 1, 1) := by decide +kernel
theorem dX0_settleGreater_3 : decode cX0_settleGreater 3 = .ok (.aload_n 0, 1) := by decide +kernel
theorem dX0_settleGreater_4 : decode cX0_settleGreater 4 = .ok (.getfield 16, 3) := by decide +kernel
theorem dX0_settleGreater_7 : decode cX0_settleGreater 7 = .ok (.iload_n 2, 1) := by decide +kernel
theorem dX0_settleGreater_8 : decode cX0_settleGreater 8 = .ok (.invokestatic 100, 3) := by decide +kernel
theorem dX0_settleGreater_11 : decode cX0_settleGreater 11 = .ok (.invokestatic 100, 3) := by decide +kernel
theorem dX0_settleGreater_14 : decode cX0_settleGreater 14 = .ok (.aload_n 1, 1) := by decide +kernel
theorem dX0_settleGreater_15 : decode cX0_settleGreater 15 = .ok (.aload_n 0, 1) := by decide +kernel
theorem dX0_settleGreater_16 : decode cX0_settleGreater 16 = .ok (.getfield 19, 3) := by decide +kernel
theorem dX0_settleGreater_19 : decode cX0_settleGreater 19 = .ok (.iload_n 2, 1) := by decide +kernel
theorem dX0_settleGreater_20 : decode cX0_settleGreater 20 = .ok (.invokestatic 100, 3) := by decide +kernel
theorem dX0_settleGreater_23 : decode cX0_settleGreater 23 = .ok (.invokestatic 100, 3) := by decide +kernel
theorem dX0_settleGreater_26 : decode cX0_settleGreater 26 = .ok (.invokestatic 269, 3) := by decide +kernel
theorem dX0_settleGreater_29 : decode cX0_settleGreater 29 = .ok (.invokestatic 72, 3) := by decide +kernel
theorem dX0_settleGreater_32 : decode cX0_settleGreater 32 = .ok (.return_, 1) := by decide +kernel
set_option maxRecDepth 20000 in
theorem ggX0_settleForksAfter_X0_holdsExam : GoodIn wsX0_settleForksAfter wsX0_holdsExam := goodIn_r _ [6, 7, 8, 9, 5, 10, 34, 35, 36, 37, 38, 39, 40, 41, 42, 43, 44, 45, 46, 47, 48, 49, 50, 51] (by decide +kernel) (by decide +kernel)
set_option maxRecDepth 20000 in
theorem gX0_settleForksAfter_X0_holdsExam : GoodIn wsX0_settleForksAfter (wsV RX0 135 RX0 yX0_holdsExam wsX0_holdsExam) := goodIn_app (goodIn_of _ (by decide +kernel)) ggX0_settleForksAfter_X0_holdsExam
set_option maxRecDepth 20000 in
theorem ggX0_settleForksAfter_X0_settleFork : GoodIn wsX0_settleForksAfter wsX0_settleFork := goodIn_r _ [14, 15, 16, 17, 18, 19, 20, 5, 21, 22, 23, 24, 25, 26, 27, 28, 29, 30, 31, 32, 33, 34, 35, 36, 37, 38, 39, 40, 41, 42, 43, 44, 45, 46, 47, 48, 49, 50, 51] (by decide +kernel) (by decide +kernel)
set_option maxRecDepth 20000 in
theorem gX0_settleForksAfter_X0_settleFork : GoodIn wsX0_settleForksAfter (wsV RX0 94 RX0 yX0_settleFork wsX0_settleFork) := goodIn_app (goodIn_of _ (by decide +kernel)) ggX0_settleForksAfter_X0_settleFork
theorem dX0_settleForksAfter_0 : decode cX0_settleForksAfter 0 = .ok (.iload_n 1, 1) := by decide +kernel
theorem dX0_settleForksAfter_1 : decode cX0_settleForksAfter 1 = .ok (.iconst 1, 1) := by decide +kernel
theorem dX0_settleForksAfter_2 : decode cX0_settleForksAfter 2 = .ok (.iadd, 1) := by decide +kernel
theorem dX0_settleForksAfter_3 : decode cX0_settleForksAfter 3 = .ok (.istore_n 2, 1) := by decide +kernel
theorem dX0_settleForksAfter_4 : decode cX0_settleForksAfter 4 = .ok (.iload_n 2, 1) := by decide +kernel
theorem dX0_settleForksAfter_5 : decode cX0_settleForksAfter 5 = .ok (.aload_n 0, 1) := by decide +kernel
theorem dX0_settleForksAfter_6 : decode cX0_settleForksAfter 6 = .ok (.getfield 60, 3) := by decide +kernel
theorem dX0_settleForksAfter_9 : decode cX0_settleForksAfter 9 = .ok (.if_icmp .ge 22, 3) := by decide +kernel
theorem dX0_settleForksAfter_12 : decode cX0_settleForksAfter 12 = .ok (.aload_n 0, 1) := by decide +kernel
theorem dX0_settleForksAfter_13 : decode cX0_settleForksAfter 13 = .ok (.iload_n 2, 1) := by decide +kernel
theorem dX0_settleForksAfter_14 : decode cX0_settleForksAfter 14 = .ok (.invokevirtual 135, 3) := by decide +kernel
theorem dX0_settleForksAfter_17 : decode cX0_settleForksAfter 17 = .ok (.ifCond .ne 8, 3) := by decide +kernel
theorem dX0_settleForksAfter_20 : decode cX0_settleForksAfter 20 = .ok (.aload_n 0, 1) := by decide +kernel
theorem dX0_settleForksAfter_21 : decode cX0_settleForksAfter 21 = .ok (.iload_n 2, 1) := by decide +kernel
theorem dX0_settleForksAfter_22 : decode cX0_settleForksAfter 22 = .ok (.invokevirtual 94, 3) := by decide +kernel
theorem dX0_settleForksAfter_25 : decode cX0_settleForksAfter 25 = .ok (.iinc 2 1, 3) := by decide +kernel
theorem dX0_settleForksAfter_28 : decode cX0_settleForksAfter 28 = .ok (.goto (-24), 3) := by decide +kernel
theorem dX0_settleForksAfter_31 : decode cX0_settleForksAfter 31 = .ok (.return_, 1) := by decide +kernel
set_option maxRecDepth 20000 in
theorem ggX0_pathFrom_X0_at : GoodIn wsX0_pathFrom wsX0_at := goodIn_r _ [6] (by decide +kernel) (by decide +kernel)
set_option maxRecDepth 20000 in
theorem gX0_pathFrom_X0_at : GoodIn wsX0_pathFrom (va_wsS RX0 100 yX0_at wsX0_at) := goodIn_app (goodIn_of _ (by decide +kernel)) ggX0_pathFrom_X0_at
theorem dX0_pathFrom_0 : decode cX0_pathFrom 0 = .ok (.iload_n 2, 1) := by decide +kernel
theorem dX0_pathFrom_1 : decode cX0_pathFrom 1 = .ok (.ifCond .eq 14, 3) := by decide +kernel
theorem dX0_pathFrom_4 : decode cX0_pathFrom 4 = .ok (.aload_n 0, 1) := by decide +kernel
theorem dX0_pathFrom_5 : decode cX0_pathFrom 5 = .ok (.getfield 19, 3) := by decide +kernel
theorem dX0_pathFrom_8 : decode cX0_pathFrom 8 = .ok (.iload_n 1, 1) := by decide +kernel
theorem dX0_pathFrom_9 : decode cX0_pathFrom 9 = .ok (.invokestatic 100, 3) := by decide +kernel
theorem dX0_pathFrom_12 : decode cX0_pathFrom 12 = .ok (.goto 11, 3) := by decide +kernel
theorem dX0_pathFrom_15 : decode cX0_pathFrom 15 = .ok (.aload_n 0, 1) := by decide +kernel
theorem dX0_pathFrom_16 : decode cX0_pathFrom 16 = .ok (.getfield 16, 3) := by decide +kernel
theorem dX0_pathFrom_19 : decode cX0_pathFrom 19 = .ok (.iload_n 1, 1) := by decide +kernel
theorem dX0_pathFrom_20 : decode cX0_pathFrom 20 = .ok (.invokestatic 100, 3) := by decide +kernel
theorem dX0_pathFrom_23 : decode cX0_pathFrom 23 = .ok (.ireturn, 1) := by decide +kernel
set_option maxRecDepth 20000 in
theorem ggX0_riskOfPath_X0_pathFrom : GoodIn wsX0_riskOfPath wsX0_pathFrom := goodIn_r _ [12, 13, 14, 15, 16, 11, 17, 18, 19, 20, 21, 22, 23, 24, 25, 26, 27, 28, 29, 30, 31, 32, 33, 34, 35] (by decide +kernel) (by decide +kernel)
set_option maxRecDepth 20000 in
theorem gX0_riskOfPath_X0_pathFrom : GoodIn wsX0_riskOfPath (wsV RX0 163 RX0 yX0_pathFrom wsX0_pathFrom) := goodIn_app (goodIn_of _ (by decide +kernel)) ggX0_riskOfPath_X0_pathFrom
set_option maxRecDepth 20000 in
theorem ggX0_riskOfPath_X0_at : GoodIn wsX0_riskOfPath wsX0_at := goodIn_r _ [17] (by decide +kernel) (by decide +kernel)
set_option maxRecDepth 20000 in
theorem gX0_riskOfPath_X0_at : GoodIn wsX0_riskOfPath (va_wsS RX0 100 yX0_at wsX0_at) := goodIn_app (goodIn_of _ (by decide +kernel)) ggX0_riskOfPath_X0_at
theorem dX0_riskOfPath_0 : decode cX0_riskOfPath 0 = .ok (.aload_n 0, 1) := by decide +kernel
theorem dX0_riskOfPath_1 : decode cX0_riskOfPath 1 = .ok (.getfield 28, 3) := by decide +kernel
theorem dX0_riskOfPath_4 : decode cX0_riskOfPath 4 = .ok (.aload_n 0, 1) := by decide +kernel
theorem dX0_riskOfPath_5 : decode cX0_riskOfPath 5 = .ok (.iload_n 1, 1) := by decide +kernel
theorem dX0_riskOfPath_6 : decode cX0_riskOfPath 6 = .ok (.iload_n 2, 1) := by decide +kernel
theorem dX0_riskOfPath_7 : decode cX0_riskOfPath 7 = .ok (.invokevirtual 163, 3) := by decide +kernel
theorem dX0_riskOfPath_10 : decode cX0_riskOfPath 10 = .ok (.invokestatic 100, 3) := by decide +kernel
theorem dX0_riskOfPath_13 : decode cX0_riskOfPath 13 = .ok (.istore_n 3, 1) := by decide +kernel
theorem dX0_riskOfPath_14 : decode cX0_riskOfPath 14 = .ok (.aload_n 0, 1) := by decide +kernel
theorem dX0_riskOfPath_15 : decode cX0_riskOfPath 15 = .ok (.getfield 31, 3) := by decide +kernel
theorem dX0_riskOfPath_18 : decode cX0_riskOfPath 18 = .ok (.aload_n 0, 1) := by decide +kernel
theorem dX0_riskOfPath_19 : decode cX0_riskOfPath 19 = .ok (.iload_n 1, 1) := by decide +kernel
theorem dX0_riskOfPath_20 : decode cX0_riskOfPath 20 = .ok (.iload_n 2, 1) := by decide +kernel
theorem dX0_riskOfPath_21 : decode cX0_riskOfPath 21 = .ok (.ifCond .ne 7, 3) := by decide +kernel
theorem dX0_riskOfPath_24 : decode cX0_riskOfPath 24 = .ok (.iconst 1, 1) := by decide +kernel
theorem dX0_riskOfPath_25 : decode cX0_riskOfPath 25 = .ok (.goto 4, 3) := by decide +kernel
theorem dX0_riskOfPath_28 : decode cX0_riskOfPath 28 = .ok (.iconst 0, 1) := by decide +kernel
theorem dX0_riskOfPath_29 : decode cX0_riskOfPath 29 = .ok (.invokevirtual 163, 3) := by decide +kernel
theorem dX0_riskOfPath_32 : decode cX0_riskOfPath 32 = .ok (.invokestatic 100, 3) := by decide +kernel
theorem dX0_riskOfPath_35 : decode cX0_riskOfPath 35 = .ok (.istore 4, 2) := by decide +kernel
theorem dX0_riskOfPath_37 : decode cX0_riskOfPath 37 = .ok (.iconst 0, 1) := by decide +kernel
theorem dX0_riskOfPath_38 : decode cX0_riskOfPath 38 = .ok (.iload 4, 2) := by decide +kernel
theorem dX0_riskOfPath_40 : decode cX0_riskOfPath 40 = .ok (.iload_n 3, 1) := by decide +kernel
theorem dX0_riskOfPath_41 : decode cX0_riskOfPath 41 = .ok (.isub, 1) := by decide +kernel
theorem dX0_riskOfPath_42 : decode cX0_riskOfPath 42 = .ok (.invokestatic 269, 3) := by decide +kernel
theorem dX0_riskOfPath_45 : decode cX0_riskOfPath 45 = .ok (.aload_n 0, 1) := by decide +kernel
theorem dX0_riskOfPath_46 : decode cX0_riskOfPath 46 = .ok (.getfield 22, 3) := by decide +kernel
theorem dX0_riskOfPath_49 : decode cX0_riskOfPath 49 = .ok (.iload_n 1, 1) := by decide +kernel
theorem dX0_riskOfPath_50 : decode cX0_riskOfPath 50 = .ok (.invokestatic 100, 3) := by decide +kernel
theorem dX0_riskOfPath_53 : decode cX0_riskOfPath 53 = .ok (.imul, 1) := by decide +kernel
theorem dX0_riskOfPath_54 : decode cX0_riskOfPath 54 = .ok (.ireturn, 1) := by decide +kernel
set_option maxRecDepth 20000 in
theorem ggX0_plansRight_X0_riskOfPath : GoodIn wsX0_plansRight wsX0_riskOfPath := goodIn_r _ [5, 6, 7, 8, 9, 10, 11, 12, 13, 14, 15, 4, 16, 17, 18, 19, 20, 21, 22, 23, 24, 25, 26, 27, 28, 29, 30, 31, 32, 33, 34, 35, 36, 37, 38, 39] (by decide +kernel) (by decide +kernel)
set_option maxRecDepth 20000 in
theorem gX0_plansRight_X0_riskOfPath : GoodIn wsX0_plansRight (wsV RX0 159 RX0 yX0_riskOfPath wsX0_riskOfPath) := goodIn_app (goodIn_of _ (by decide +kernel)) ggX0_plansRight_X0_riskOfPath
theorem dX0_plansRight_0 : decode cX0_plansRight 0 = .ok (.aload_n 0, 1) := by decide +kernel
theorem dX0_plansRight_1 : decode cX0_plansRight 1 = .ok (.iload_n 1, 1) := by decide +kernel
theorem dX0_plansRight_2 : decode cX0_plansRight 2 = .ok (.iconst 1, 1) := by decide +kernel
theorem dX0_plansRight_3 : decode cX0_plansRight 3 = .ok (.invokevirtual 159, 3) := by decide +kernel
theorem dX0_plansRight_6 : decode cX0_plansRight 6 = .ok (.aload_n 0, 1) := by decide +kernel
theorem dX0_plansRight_7 : decode cX0_plansRight 7 = .ok (.iload_n 1, 1) := by decide +kernel
theorem dX0_plansRight_8 : decode cX0_plansRight 8 = .ok (.iconst 0, 1) := by decide +kernel
theorem dX0_plansRight_9 : decode cX0_plansRight 9 = .ok (.invokevirtual 159, 3) := by decide +kernel
theorem dX0_plansRight_12 : decode cX0_plansRight 12 = .ok (.if_icmp .ge 7, 3) := by decide +kernel
theorem dX0_plansRight_15 : decode cX0_plansRight 15 = .ok (.iconst 1, 1) := by decide +kernel
theorem dX0_plansRight_16 : decode cX0_plansRight 16 = .ok (.goto 4, 3) := by decide +kernel
theorem dX0_plansRight_19 : decode cX0_plansRight 19 = .ok (.iconst 0, 1) := by decide +kernel
theorem dX0_plansRight_20 : decode cX0_plansRight 20 = .ok (.ireturn, 1) := by decide +kernel
set_option maxRecDepth 20000 in
theorem ggX0_smallerRisk_X0_riskOfPath : GoodIn wsX0_smallerRisk wsX0_riskOfPath := goodIn_r _ [9, 10, 11, 12, 13, 3, 14, 15, 16, 17, 18, 8, 19, 20, 21, 22, 23, 24, 25, 26, 27, 28, 29, 30, 31, 32, 33, 34, 35, 36, 37, 38, 39, 40, 41, 42] (by decide +kernel) (by decide +kernel)
set_option maxRecDepth 20000 in
theorem gX0_smallerRisk_X0_riskOfPath : GoodIn wsX0_smallerRisk (wsV RX0 159 RX0 yX0_riskOfPath wsX0_riskOfPath) := goodIn_app (goodIn_of _ (by decide +kernel)) ggX0_smallerRisk_X0_riskOfPath
theorem dX0_smallerRisk_0 : decode cX0_smallerRisk 0 = .ok (.aload_n 0, 1) := by decide +kernel
theorem dX0_smallerRisk_1 : decode cX0_smallerRisk 1 = .ok (.iload_n 1, 1) := by decide +kernel
theorem dX0_smallerRisk_2 : decode cX0_smallerRisk 2 = .ok (.iconst 0, 1) := by decide +kernel
theorem dX0_smallerRisk_3 : decode cX0_smallerRisk 3 = .ok (.invokevirtual 159, 3) := by decide +kernel
theorem dX0_smallerRisk_6 : decode cX0_smallerRisk 6 = .ok (.aload_n 0, 1) := by decide +kernel
theorem dX0_smallerRisk_7 : decode cX0_smallerRisk 7 = .ok (.iload_n 1, 1) := by decide +kernel
theorem dX0_smallerRisk_8 : decode cX0_smallerRisk 8 = .ok (.iconst 1, 1) := by decide +kernel
theorem dX0_smallerRisk_9 : decode cX0_smallerRisk 9 = .ok (.invokevirtual 159, 3) := by decide +kernel
theorem dX0_smallerRisk_12 : decode cX0_smallerRisk 12 = .ok (.invokestatic 274, 3) := by decide +kernel
theorem dX0_smallerRisk_15 : decode cX0_smallerRisk 15 = .ok (.ireturn, 1) := by decide +kernel
set_option maxRecDepth 20000 in
theorem ggX0_walk_X0_at : GoodIn wsX0_walk wsX0_at := goodIn_r _ [7] (by decide +kernel) (by decide +kernel)
set_option maxRecDepth 20000 in
theorem gX0_walk_X0_at : GoodIn wsX0_walk (va_wsS RX0 100 yX0_at wsX0_at) := goodIn_app (goodIn_of _ (by decide +kernel)) ggX0_walk_X0_at
set_option maxRecDepth 20000 in
theorem ggX0_walk_X0_put : GoodIn wsX0_walk wsX0_put := goodIn_r _ [10] (by decide +kernel) (by decide +kernel)
set_option maxRecDepth 20000 in
theorem gX0_walk_X0_put : GoodIn wsX0_walk (va_wsS RX0 72 yX0_put wsX0_put) := goodIn_app (goodIn_of _ (by decide +kernel)) ggX0_walk_X0_put
set_option maxRecDepth 20000 in
theorem ggX0_walk_X0_pathFrom : GoodIn wsX0_walk wsX0_pathFrom := goodIn_r _ [14, 15, 16, 4, 5, 6, 7, 17, 18, 19, 20, 21, 22, 23, 24, 25, 26, 27, 28, 29, 30, 31, 32, 33, 34] (by decide +kernel) (by decide +kernel)
set_option maxRecDepth 20000 in
theorem gX0_walk_X0_pathFrom : GoodIn wsX0_walk (wsV RX0 163 RX0 yX0_pathFrom wsX0_pathFrom) := goodIn_app (goodIn_of _ (by decide +kernel)) ggX0_walk_X0_pathFrom
theorem dX0_walk_0 : decode cX0_walk 0 = .ok (.aload_n 0, 1) := by decide +kernel
theorem dX0_walk_1 : decode cX0_walk 1 = .ok (.getfield 41, 3) := by decide +kernel
theorem dX0_walk_4 : decode cX0_walk 4 = .ok (.iload_n 1, 1) := by decide +kernel
theorem dX0_walk_5 : decode cX0_walk 5 = .ok (.invokestatic 100, 3) := by decide +kernel
theorem dX0_walk_8 : decode cX0_walk 8 = .ok (.istore_n 3, 1) := by decide +kernel
theorem dX0_walk_9 : decode cX0_walk 9 = .ok (.aload_n 0, 1) := by decide +kernel
theorem dX0_walk_10 : decode cX0_walk 10 = .ok (.getfield 44, 3) := by decide +kernel
theorem dX0_walk_13 : decode cX0_walk 13 = .ok (.iload_n 1, 1) := by decide +kernel
theorem dX0_walk_14 : decode cX0_walk 14 = .ok (.invokestatic 100, 3) := by decide +kernel
theorem dX0_walk_17 : decode cX0_walk 17 = .ok (.istore 4, 2) := by decide +kernel
theorem dX0_walk_19 : decode cX0_walk 19 = .ok (.aload_n 0, 1) := by decide +kernel
theorem dX0_walk_20 : decode cX0_walk 20 = .ok (.getfield 47, 3) := by decide +kernel
theorem dX0_walk_23 : decode cX0_walk 23 = .ok (.iload_n 1, 1) := by decide +kernel
theorem dX0_walk_24 : decode cX0_walk 24 = .ok (.bipush 40, 2) := by decide +kernel
theorem dX0_walk_26 : decode cX0_walk 26 = .ok (.imul, 1) := by decide +kernel
theorem dX0_walk_27 : decode cX0_walk 27 = .ok (.iload 4, 2) := by decide +kernel
theorem dX0_walk_29 : decode cX0_walk 29 = .ok (.iadd, 1) := by decide +kernel
theorem dX0_walk_30 : decode cX0_walk 30 = .ok (.iload_n 3, 1) := by decide +kernel
theorem dX0_walk_31 : decode cX0_walk 31 = .ok (.invokestatic 72, 3) := by decide +kernel
theorem dX0_walk_34 : decode cX0_walk 34 = .ok (.aload_n 0, 1) := by decide +kernel
theorem dX0_walk_35 : decode cX0_walk 35 = .ok (.getfield 44, 3) := by decide +kernel
theorem dX0_walk_38 : decode cX0_walk 38 = .ok (.iload_n 1, 1) := by decide +kernel
theorem dX0_walk_39 : decode cX0_walk 39 = .ok (.iload 4, 2) := by decide +kernel
theorem dX0_walk_41 : decode cX0_walk 41 = .ok (.iconst 1, 1) := by decide +kernel
theorem dX0_walk_42 : decode cX0_walk 42 = .ok (.iadd, 1) := by decide +kernel
theorem dX0_walk_43 : decode cX0_walk 43 = .ok (.invokestatic 72, 3) := by decide +kernel
theorem dX0_walk_46 : decode cX0_walk 46 = .ok (.aload_n 0, 1) := by decide +kernel
theorem dX0_walk_47 : decode cX0_walk 47 = .ok (.getfield 41, 3) := by decide +kernel
theorem dX0_walk_50 : decode cX0_walk 50 = .ok (.iload_n 1, 1) := by decide +kernel
theorem dX0_walk_51 : decode cX0_walk 51 = .ok (.aload_n 0, 1) := by decide +kernel
theorem dX0_walk_52 : decode cX0_walk 52 = .ok (.iload_n 3, 1) := by decide +kernel
theorem dX0_walk_53 : decode cX0_walk 53 = .ok (.iload_n 2, 1) := by decide +kernel
theorem dX0_walk_54 : decode cX0_walk 54 = .ok (.invokevirtual 163, 3) := by decide +kernel
theorem dX0_walk_57 : decode cX0_walk 57 = .ok (.invokestatic 72, 3) := by decide +kernel
theorem dX0_walk_60 : decode cX0_walk 60 = .ok (.return_, 1) := by decide +kernel
set_option maxRecDepth 20000 in
theorem ggX0_passedFork_X0_at : GoodIn wsX0_passedFork wsX0_at := goodIn_r _ [5] (by decide +kernel) (by decide +kernel)
set_option maxRecDepth 20000 in
theorem gX0_passedFork_X0_at : GoodIn wsX0_passedFork (va_wsS RX0 100 yX0_at wsX0_at) := goodIn_app (goodIn_of _ (by decide +kernel)) ggX0_passedFork_X0_at
theorem dX0_passedFork_0 : decode cX0_passedFork 0 = .ok (.aload_n 0, 1) := by decide +kernel
theorem dX0_passedFork_1 : decode cX0_passedFork 1 = .ok (.getfield 47, 3) := by decide +kernel
theorem dX0_passedFork_4 : decode cX0_passedFork 4 = .ok (.iload_n 1, 1) := by decide +kernel
theorem dX0_passedFork_5 : decode cX0_passedFork 5 = .ok (.bipush 40, 2) := by decide +kernel
theorem dX0_passedFork_7 : decode cX0_passedFork 7 = .ok (.imul, 1) := by decide +kernel
theorem dX0_passedFork_8 : decode cX0_passedFork 8 = .ok (.iload_n 2, 1) := by decide +kernel
theorem dX0_passedFork_9 : decode cX0_passedFork 9 = .ok (.iadd, 1) := by decide +kernel
theorem dX0_passedFork_10 : decode cX0_passedFork 10 = .ok (.invokestatic 100, 3) := by decide +kernel
theorem dX0_passedFork_13 : decode cX0_passedFork 13 = .ok (.ireturn, 1) := by decide +kernel
set_option maxRecDepth 20000 in
theorem ggX0_regretOfStep_X0_passedFork : GoodIn wsX0_regretOfStep wsX0_passedFork := goodIn_r _ [13, 14, 15, 16, 12, 17, 18, 19, 20, 21, 22, 23, 24, 25, 26, 27, 28, 29, 30, 31, 32, 33, 34, 35] (by decide +kernel) (by decide +kernel)
set_option maxRecDepth 20000 in
theorem gX0_regretOfStep_X0_passedFork : GoodIn wsX0_regretOfStep (wsV RX0 146 RX0 yX0_passedFork wsX0_passedFork) := goodIn_app (goodIn_of _ (by decide +kernel)) ggX0_regretOfStep_X0_passedFork
set_option maxRecDepth 20000 in
theorem ggX0_regretOfStep_X0_at : GoodIn wsX0_regretOfStep wsX0_at := goodIn_r _ [17] (by decide +kernel) (by decide +kernel)
set_option maxRecDepth 20000 in
theorem gX0_regretOfStep_X0_at : GoodIn wsX0_regretOfStep (va_wsS RX0 100 yX0_at wsX0_at) := goodIn_app (goodIn_of _ (by decide +kernel)) ggX0_regretOfStep_X0_at
theorem dX0_regretOfStep_0 : decode cX0_regretOfStep 0 = .ok (.aload_n 0, 1) := by decide +kernel
theorem dX0_regretOfStep_1 : decode cX0_regretOfStep 1 = .ok (.iload_n 1, 1) := by decide +kernel
theorem dX0_regretOfStep_2 : decode cX0_regretOfStep 2 = .ok (.iload_n 2, 1) := by decide +kernel
theorem dX0_regretOfStep_3 : decode cX0_regretOfStep 3 = .ok (.invokevirtual 146, 3) := by decide +kernel
theorem dX0_regretOfStep_6 : decode cX0_regretOfStep 6 = .ok (.istore_n 3, 1) := by decide +kernel
theorem dX0_regretOfStep_7 : decode cX0_regretOfStep 7 = .ok (.aload_n 0, 1) := by decide +kernel
theorem dX0_regretOfStep_8 : decode cX0_regretOfStep 8 = .ok (.getfield 25, 3) := by decide +kernel
theorem dX0_regretOfStep_11 : decode cX0_regretOfStep 11 = .ok (.aload_n 0, 1) := by decide +kernel
theorem dX0_regretOfStep_12 : decode cX0_regretOfStep 12 = .ok (.getfield 41, 3) := by decide +kernel
theorem dX0_regretOfStep_15 : decode cX0_regretOfStep 15 = .ok (.iload_n 1, 1) := by decide +kernel
theorem dX0_regretOfStep_16 : decode cX0_regretOfStep 16 = .ok (.invokestatic 100, 3) := by decide +kernel
theorem dX0_regretOfStep_19 : decode cX0_regretOfStep 19 = .ok (.invokestatic 100, 3) := by decide +kernel
theorem dX0_regretOfStep_22 : decode cX0_regretOfStep 22 = .ok (.istore 4, 2) := by decide +kernel
theorem dX0_regretOfStep_24 : decode cX0_regretOfStep 24 = .ok (.iconst 0, 1) := by decide +kernel
theorem dX0_regretOfStep_25 : decode cX0_regretOfStep 25 = .ok (.aload_n 0, 1) := by decide +kernel
theorem dX0_regretOfStep_26 : decode cX0_regretOfStep 26 = .ok (.getfield 34, 3) := by decide +kernel
theorem dX0_regretOfStep_29 : decode cX0_regretOfStep 29 = .ok (.iload_n 3, 1) := by decide +kernel
theorem dX0_regretOfStep_30 : decode cX0_regretOfStep 30 = .ok (.invokestatic 100, 3) := by decide +kernel
theorem dX0_regretOfStep_33 : decode cX0_regretOfStep 33 = .ok (.iload 4, 2) := by decide +kernel
theorem dX0_regretOfStep_35 : decode cX0_regretOfStep 35 = .ok (.isub, 1) := by decide +kernel
theorem dX0_regretOfStep_36 : decode cX0_regretOfStep 36 = .ok (.invokestatic 269, 3) := by decide +kernel
theorem dX0_regretOfStep_39 : decode cX0_regretOfStep 39 = .ok (.aload_n 0, 1) := by decide +kernel
theorem dX0_regretOfStep_40 : decode cX0_regretOfStep 40 = .ok (.getfield 22, 3) := by decide +kernel
theorem dX0_regretOfStep_43 : decode cX0_regretOfStep 43 = .ok (.iload_n 3, 1) := by decide +kernel
theorem dX0_regretOfStep_44 : decode cX0_regretOfStep 44 = .ok (.invokestatic 100, 3) := by decide +kernel
theorem dX0_regretOfStep_47 : decode cX0_regretOfStep 47 = .ok (.imul, 1) := by decide +kernel
theorem dX0_regretOfStep_48 : decode cX0_regretOfStep 48 = .ok (.ireturn, 1) := by decide +kernel
set_option maxRecDepth 20000 in
theorem ggX0_regretOfAll_X0_at : GoodIn wsX0_regretOfAll wsX0_at := goodIn_r _ [5] (by decide +kernel) (by decide +kernel)
set_option maxRecDepth 20000 in
theorem gX0_regretOfAll_X0_at : GoodIn wsX0_regretOfAll (va_wsS RX0 100 yX0_at wsX0_at) := goodIn_app (goodIn_of _ (by decide +kernel)) ggX0_regretOfAll_X0_at
set_option maxRecDepth 20000 in
theorem ggX0_regretOfAll_X0_regretOfStep : GoodIn wsX0_regretOfAll wsX0_regretOfStep := goodIn_r _ [9, 10, 11, 12, 13, 14, 15, 16, 17, 18, 19, 20, 4, 21, 22, 2, 3, 5, 23, 24, 25, 26, 27, 28, 29, 30, 31, 32, 33, 34, 35, 36, 37, 38, 39, 40] (by decide +kernel) (by decide +kernel)
set_option maxRecDepth 20000 in
theorem gX0_regretOfAll_X0_regretOfStep : GoodIn wsX0_regretOfAll (wsV RX0 176 RX0 yX0_regretOfStep wsX0_regretOfStep) := goodIn_app (goodIn_of _ (by decide +kernel)) ggX0_regretOfAll_X0_regretOfStep
theorem dX0_regretOfAll_0 : decode cX0_regretOfAll 0 = .ok (.iconst 0, 1) := by decide +kernel
theorem dX0_regretOfAll_1 : decode cX0_regretOfAll 1 = .ok (.istore_n 2, 1) := by decide +kernel
theorem dX0_regretOfAll_2 : decode cX0_regretOfAll 2 = .ok (.aload_n 0, 1) := by decide +kernel
theorem dX0_regretOfAll_3 : decode cX0_regretOfAll 3 = .ok (.getfield 44, 3) := by decide +kernel
theorem dX0_regretOfAll_6 : decode cX0_regretOfAll 6 = .ok (.iload_n 1, 1) := by decide +kernel
theorem dX0_regretOfAll_7 : decode cX0_regretOfAll 7 = .ok (.invokestatic 100, 3) := by decide +kernel
theorem dX0_regretOfAll_10 : decode cX0_regretOfAll 10 = .ok (.istore_n 3, 1) := by decide +kernel
theorem dX0_regretOfAll_11 : decode cX0_regretOfAll 11 = .ok (.iconst 0, 1) := by decide +kernel
theorem dX0_regretOfAll_12 : decode cX0_regretOfAll 12 = .ok (.istore 4, 2) := by decide +kernel
theorem dX0_regretOfAll_14 : decode cX0_regretOfAll 14 = .ok (.iload 4, 2) := by decide +kernel
theorem dX0_regretOfAll_16 : decode cX0_regretOfAll 16 = .ok (.iload_n 3, 1) := by decide +kernel
theorem dX0_regretOfAll_17 : decode cX0_regretOfAll 17 = .ok (.if_icmp .ge 19, 3) := by decide +kernel
theorem dX0_regretOfAll_20 : decode cX0_regretOfAll 20 = .ok (.iload_n 2, 1) := by decide +kernel
theorem dX0_regretOfAll_21 : decode cX0_regretOfAll 21 = .ok (.aload_n 0, 1) := by decide +kernel
theorem dX0_regretOfAll_22 : decode cX0_regretOfAll 22 = .ok (.iload_n 1, 1) := by decide +kernel
theorem dX0_regretOfAll_23 : decode cX0_regretOfAll 23 = .ok (.iload 4, 2) := by decide +kernel
theorem dX0_regretOfAll_25 : decode cX0_regretOfAll 25 = .ok (.invokevirtual 176, 3) := by decide +kernel
theorem dX0_regretOfAll_28 : decode cX0_regretOfAll 28 = .ok (.iadd, 1) := by decide +kernel
theorem dX0_regretOfAll_29 : decode cX0_regretOfAll 29 = .ok (.istore_n 2, 1) := by decide +kernel
theorem dX0_regretOfAll_30 : decode cX0_regretOfAll 30 = .ok (.iinc 4 1, 3) := by decide +kernel
theorem dX0_regretOfAll_33 : decode cX0_regretOfAll 33 = .ok (.goto (-19), 3) := by decide +kernel
theorem dX0_regretOfAll_36 : decode cX0_regretOfAll 36 = .ok (.iload_n 2, 1) := by decide +kernel
theorem dX0_regretOfAll_37 : decode cX0_regretOfAll 37 = .ok (.ireturn, 1) := by decide +kernel
theorem dX0_at_0 : decode cX0_at 0 = .ok (.iload_n 1, 1) := by decide +kernel
theorem dX0_at_1 : decode cX0_at 1 = .ok (.ifCond .lt 15, 3) := by decide +kernel
theorem dX0_at_4 : decode cX0_at 4 = .ok (.iload_n 1, 1) := by decide +kernel
theorem dX0_at_5 : decode cX0_at 5 = .ok (.aload_n 0, 1) := by decide +kernel
theorem dX0_at_6 : decode cX0_at 6 = .ok (.arraylength, 1) := by decide +kernel
theorem dX0_at_7 : decode cX0_at 7 = .ok (.if_icmp .ge 9, 3) := by decide +kernel
theorem dX0_at_10 : decode cX0_at 10 = .ok (.aload_n 0, 1) := by decide +kernel
theorem dX0_at_11 : decode cX0_at 11 = .ok (.iload_n 1, 1) := by decide +kernel
theorem dX0_at_12 : decode cX0_at 12 = .ok (.iaload, 1) := by decide +kernel
theorem dX0_at_13 : decode cX0_at 13 = .ok (.goto 4, 3) := by decide +kernel
theorem dX0_at_16 : decode cX0_at 16 = .ok (.iconst 0, 1) := by decide +kernel
theorem dX0_at_17 : decode cX0_at 17 = .ok (.ireturn, 1) := by decide +kernel
theorem dX0_put_0 : decode cX0_put 0 = .ok (.iload_n 1, 1) := by decide +kernel
theorem dX0_put_1 : decode cX0_put 1 = .ok (.ifCond .lt 13, 3) := by decide +kernel
theorem dX0_put_4 : decode cX0_put 4 = .ok (.iload_n 1, 1) := by decide +kernel
theorem dX0_put_5 : decode cX0_put 5 = .ok (.aload_n 0, 1) := by decide +kernel
theorem dX0_put_6 : decode cX0_put 6 = .ok (.arraylength, 1) := by decide +kernel
theorem dX0_put_7 : decode cX0_put 7 = .ok (.if_icmp .ge 7, 3) := by decide +kernel
theorem dX0_put_10 : decode cX0_put 10 = .ok (.aload_n 0, 1) := by decide +kernel
theorem dX0_put_11 : decode cX0_put 11 = .ok (.iload_n 1, 1) := by decide +kernel
theorem dX0_put_12 : decode cX0_put 12 = .ok (.iload_n 2, 1) := by decide +kernel
theorem dX0_put_13 : decode cX0_put 13 = .ok (.iastore, 1) := by decide +kernel
theorem dX0_put_14 : decode cX0_put 14 = .ok (.return_, 1) := by decide +kernel
theorem dX0_bitsAt_0 : decode cX0_bitsAt 0 = .ok (.iload_n 1, 1) := by decide +kernel
theorem dX0_bitsAt_1 : decode cX0_bitsAt 1 = .ok (.ifCond .lt 15, 3) := by decide +kernel
theorem dX0_bitsAt_4 : decode cX0_bitsAt 4 = .ok (.iload_n 1, 1) := by decide +kernel
theorem dX0_bitsAt_5 : decode cX0_bitsAt 5 = .ok (.aload_n 0, 1) := by decide +kernel
theorem dX0_bitsAt_6 : decode cX0_bitsAt 6 = .ok (.arraylength, 1) := by decide +kernel
theorem dX0_bitsAt_7 : decode cX0_bitsAt 7 = .ok (.if_icmp .ge 9, 3) := by decide +kernel
theorem dX0_bitsAt_10 : decode cX0_bitsAt 10 = .ok (.aload_n 0, 1) := by decide +kernel
theorem dX0_bitsAt_11 : decode cX0_bitsAt 11 = .ok (.iload_n 1, 1) := by decide +kernel
theorem dX0_bitsAt_12 : decode cX0_bitsAt 12 = .ok (.laload, 1) := by decide +kernel
theorem dX0_bitsAt_13 : decode cX0_bitsAt 13 = .ok (.goto 4, 3) := by decide +kernel
theorem dX0_bitsAt_16 : decode cX0_bitsAt 16 = .ok (.lconst 0, 1) := by decide +kernel
theorem dX0_bitsAt_17 : decode cX0_bitsAt 17 = .ok (.lreturn, 1) := by decide +kernel
theorem dX0_putBits_0 : decode cX0_putBits 0 = .ok (.iload_n 1, 1) := by decide +kernel
theorem dX0_putBits_1 : decode cX0_putBits 1 = .ok (.ifCond .lt 13, 3) := by decide +kernel
theorem dX0_putBits_4 : decode cX0_putBits 4 = .ok (.iload_n 1, 1) := by decide +kernel
theorem dX0_putBits_5 : decode cX0_putBits 5 = .ok (.aload_n 0, 1) := by decide +kernel
theorem dX0_putBits_6 : decode cX0_putBits 6 = .ok (.arraylength, 1) := by decide +kernel
theorem dX0_putBits_7 : decode cX0_putBits 7 = .ok (.if_icmp .ge 7, 3) := by decide +kernel
theorem dX0_putBits_10 : decode cX0_putBits 10 = .ok (.aload_n 0, 1) := by decide +kernel
theorem dX0_putBits_11 : decode cX0_putBits 11 = .ok (.iload_n 1, 1) := by decide +kernel
theorem dX0_putBits_12 : decode cX0_putBits 12 = .ok (.lload_n 2, 1) := by decide +kernel
theorem dX0_putBits_13 : decode cX0_putBits 13 = .ok (.lastore, 1) := by decide +kernel
theorem dX0_putBits_14 : decode cX0_putBits 14 = .ok (.return_, 1) := by decide +kernel
theorem dX0_bitOf_0 : decode cX0_bitOf 0 = .ok (.lconst 1, 1) := by decide +kernel
theorem dX0_bitOf_1 : decode cX0_bitOf 1 = .ok (.iload_n 0, 1) := by decide +kernel
theorem dX0_bitOf_2 : decode cX0_bitOf 2 = .ok (.lshl, 1) := by decide +kernel
theorem dX0_bitOf_3 : decode cX0_bitOf 3 = .ok (.lreturn, 1) := by decide +kernel
theorem dX1_init_0 : decode cX1_init 0 = .ok (.aload_n 0, 1) := by decide +kernel
theorem dX1_init_1 : decode cX1_init 1 = .ok (.invokespecial 1, 3) := by decide +kernel
theorem dX1_init_4 : decode cX1_init 4 = .ok (.aload_n 0, 1) := by decide +kernel
theorem dX1_init_5 : decode cX1_init 5 = .ok (.bipush 40, 2) := by decide +kernel
theorem dX1_init_7 : decode cX1_init 7 = .ok (.newarray .boolean, 2) := by decide +kernel
theorem dX1_init_9 : decode cX1_init 9 = .ok (.putfield 9, 3) := by decide +kernel
theorem dX1_init_12 : decode cX1_init 12 = .ok (.aload_n 0, 1) := by decide +kernel
theorem dX1_init_13 : decode cX1_init 13 = .ok (.bipush 40, 2) := by decide +kernel
theorem dX1_init_15 : decode cX1_init 15 = .ok (.newarray .int, 2) := by decide +kernel
theorem dX1_init_17 : decode cX1_init 17 = .ok (.putfield 13, 3) := by decide +kernel
theorem dX1_init_20 : decode cX1_init 20 = .ok (.aload_n 0, 1) := by decide +kernel
theorem dX1_init_21 : decode cX1_init 21 = .ok (.bipush 40, 2) := by decide +kernel
theorem dX1_init_23 : decode cX1_init 23 = .ok (.newarray .int, 2) := by decide +kernel
theorem dX1_init_25 : decode cX1_init 25 = .ok (.putfield 17, 3) := by decide +kernel
theorem dX1_init_28 : decode cX1_init 28 = .ok (.aload_n 0, 1) := by decide +kernel
theorem dX1_init_29 : decode cX1_init 29 = .ok (.bipush 40, 2) := by decide +kernel
theorem dX1_init_31 : decode cX1_init 31 = .ok (.newarray .int, 2) := by decide +kernel
theorem dX1_init_33 : decode cX1_init 33 = .ok (.putfield 20, 3) := by decide +kernel
theorem dX1_init_36 : decode cX1_init 36 = .ok (.aload_n 0, 1) := by decide +kernel
theorem dX1_init_37 : decode cX1_init 37 = .ok (.bipush 40, 2) := by decide +kernel
theorem dX1_init_39 : decode cX1_init 39 = .ok (.newarray .long, 2) := by decide +kernel
theorem dX1_init_41 : decode cX1_init 41 = .ok (.putfield 23, 3) := by decide +kernel
theorem dX1_init_44 : decode cX1_init 44 = .ok (.aload_n 0, 1) := by decide +kernel
theorem dX1_init_45 : decode cX1_init 45 = .ok (.bipush 40, 2) := by decide +kernel
theorem dX1_init_47 : decode cX1_init 47 = .ok (.newarray .int, 2) := by decide +kernel
theorem dX1_init_49 : decode cX1_init 49 = .ok (.putfield 27, 3) := by decide +kernel
theorem dX1_init_52 : decode cX1_init 52 = .ok (.aload_n 0, 1) := by decide +kernel
theorem dX1_init_53 : decode cX1_init 53 = .ok (.bipush 40, 2) := by decide +kernel
theorem dX1_init_55 : decode cX1_init 55 = .ok (.newarray .int, 2) := by decide +kernel
theorem dX1_init_57 : decode cX1_init 57 = .ok (.putfield 30, 3) := by decide +kernel
theorem dX1_init_60 : decode cX1_init 60 = .ok (.aload_n 0, 1) := by decide +kernel
theorem dX1_init_61 : decode cX1_init 61 = .ok (.bipush 8, 2) := by decide +kernel
theorem dX1_init_63 : decode cX1_init 63 = .ok (.newarray .int, 2) := by decide +kernel
theorem dX1_init_65 : decode cX1_init 65 = .ok (.putfield 33, 3) := by decide +kernel
theorem dX1_init_68 : decode cX1_init 68 = .ok (.aload_n 0, 1) := by decide +kernel
theorem dX1_init_69 : decode cX1_init 69 = .ok (.bipush 8, 2) := by decide +kernel
theorem dX1_init_71 : decode cX1_init 71 = .ok (.newarray .int, 2) := by decide +kernel
theorem dX1_init_73 : decode cX1_init 73 = .ok (.putfield 36, 3) := by decide +kernel
theorem dX1_init_76 : decode cX1_init 76 = .ok (.aload_n 0, 1) := by decide +kernel
theorem dX1_init_77 : decode cX1_init 77 = .ok (.sipush 320, 3) := by decide +kernel
theorem dX1_init_80 : decode cX1_init 80 = .ok (.newarray .int, 2) := by decide +kernel
theorem dX1_init_82 : decode cX1_init 82 = .ok (.putfield 39, 3) := by decide +kernel
theorem dX1_init_85 : decode cX1_init 85 = .ok (.return_, 1) := by decide +kernel
theorem dX1_thrown_0 : decode cX1_thrown 0 = .ok (.aload_n 0, 1) := by decide +kernel
theorem dX1_thrown_1 : decode cX1_thrown 1 = .ok (.getfield 42, 3) := by decide +kernel
theorem dX1_thrown_4 : decode cX1_thrown 4 = .ok (.ireturn, 1) := by decide +kernel
theorem dX1_no_0 : decode cX1_no 0 = .ok (.aload_n 0, 1) := by decide +kernel
theorem dX1_no_1 : decode cX1_no 1 = .ok (.iload_n 1, 1) := by decide +kernel
theorem dX1_no_2 : decode cX1_no 2 = .ok (.putfield 42, 3) := by decide +kernel
theorem dX1_no_5 : decode cX1_no 5 = .ok (.iconst 0, 1) := by decide +kernel
theorem dX1_no_6 : decode cX1_no 6 = .ok (.ireturn, 1) := by decide +kernel
theorem dX1_isNot_0 : decode cX1_isNot 0 = .ok (.aload_n 0, 1) := by decide +kernel
theorem dX1_isNot_1 : decode cX1_isNot 1 = .ok (.iload_n 1, 1) := by decide +kernel
theorem dX1_isNot_2 : decode cX1_isNot 2 = .ok (.putfield 42, 3) := by decide +kernel
theorem dX1_isNot_5 : decode cX1_isNot 5 = .ok (.iconst 0, 1) := by decide +kernel
theorem dX1_isNot_6 : decode cX1_isNot 6 = .ok (.ireturn, 1) := by decide +kernel
theorem dX1_ok_0 : decode cX1_ok 0 = .ok (.aload_n 0, 1) := by decide +kernel
theorem dX1_ok_1 : decode cX1_ok 1 = .ok (.iconst 0, 1) := by decide +kernel
theorem dX1_ok_2 : decode cX1_ok 2 = .ok (.putfield 42, 3) := by decide +kernel
theorem dX1_ok_5 : decode cX1_ok 5 = .ok (.iload_n 1, 1) := by decide +kernel
theorem dX1_ok_6 : decode cX1_ok 6 = .ok (.ireturn, 1) := by decide +kernel
theorem dX1_isIn_0 : decode cX1_isIn 0 = .ok (.iload_n 0, 1) := by decide +kernel
theorem dX1_isIn_1 : decode cX1_isIn 1 = .ok (.iload_n 1, 1) := by decide +kernel
theorem dX1_isIn_2 : decode cX1_isIn 2 = .ok (.if_icmp .lt 12, 3) := by decide +kernel
theorem dX1_isIn_5 : decode cX1_isIn 5 = .ok (.iload_n 0, 1) := by decide +kernel
theorem dX1_isIn_6 : decode cX1_isIn 6 = .ok (.iload_n 2, 1) := by decide +kernel
theorem dX1_isIn_7 : decode cX1_isIn 7 = .ok (.if_icmp .gt 7, 3) := by decide +kernel
theorem dX1_isIn_10 : decode cX1_isIn 10 = .ok (.iconst 1, 1) := by decide +kernel
theorem dX1_isIn_11 : decode cX1_isIn 11 = .ok (.goto 4, 3) := by decide +kernel
theorem dX1_isIn_14 : decode cX1_isIn 14 = .ok (.iconst 0, 1) := by decide +kernel
theorem dX1_isIn_15 : decode cX1_isIn 15 = .ok (.ireturn, 1) := by decide +kernel
set_option maxRecDepth 20000 in
theorem ggX1_isPlace_X1_isIn : GoodIn wsX1_isPlace wsX1_isIn := goodIn_r _ [5] (by decide +kernel) (by decide +kernel)
set_option maxRecDepth 20000 in
theorem gX1_isPlace_X1_isIn : GoodIn wsX1_isPlace (va_wsS RX1 49 yX1_isIn wsX1_isIn) := goodIn_app (goodIn_of _ (by decide +kernel)) ggX1_isPlace_X1_isIn
theorem dX1_isPlace_0 : decode cX1_isPlace 0 = .ok (.iload_n 1, 1) := by decide +kernel
theorem dX1_isPlace_1 : decode cX1_isPlace 1 = .ok (.iconst 0, 1) := by decide +kernel
theorem dX1_isPlace_2 : decode cX1_isPlace 2 = .ok (.aload_n 0, 1) := by decide +kernel
theorem dX1_isPlace_3 : decode cX1_isPlace 3 = .ok (.getfield 46, 3) := by decide +kernel
theorem dX1_isPlace_6 : decode cX1_isPlace 6 = .ok (.iconst 1, 1) := by decide +kernel
theorem dX1_isPlace_7 : decode cX1_isPlace 7 = .ok (.isub, 1) := by decide +kernel
theorem dX1_isPlace_8 : decode cX1_isPlace 8 = .ok (.invokestatic 49, 3) := by decide +kernel
theorem dX1_isPlace_11 : decode cX1_isPlace 11 = .ok (.ireturn, 1) := by decide +kernel
set_option maxRecDepth 20000 in
theorem ggX1_isExamAt_X1_isPlace : GoodIn wsX1_isExamAt wsX1_isPlace := goodIn_r _ [6, 7, 8, 9, 5, 10, 11, 12, 13, 14, 15, 16, 17, 18, 19, 20, 21, 22, 23] (by decide +kernel) (by decide +kernel)
set_option maxRecDepth 20000 in
theorem gX1_isExamAt_X1_isPlace : GoodIn wsX1_isExamAt (wsV RX1 53 RX1 yX1_isPlace wsX1_isPlace) := goodIn_app (goodIn_of _ (by decide +kernel)) ggX1_isExamAt_X1_isPlace
theorem dX1_isExamAt_0 : decode cX1_isExamAt 0 = .ok (.aload_n 0, 1) := by decide +kernel
theorem dX1_isExamAt_1 : decode cX1_isExamAt 1 = .ok (.iload_n 1, 1) := by decide +kernel
theorem dX1_isExamAt_2 : decode cX1_isExamAt 2 = .ok (.invokevirtual 53, 3) := by decide +kernel
theorem dX1_isExamAt_5 : decode cX1_isExamAt 5 = .ok (.ifCond .eq 16, 3) := by decide +kernel
theorem dX1_isExamAt_8 : decode cX1_isExamAt 8 = .ok (.aload_n 0, 1) := by decide +kernel
theorem dX1_isExamAt_9 : decode cX1_isExamAt 9 = .ok (.getfield 9, 3) := by decide +kernel
theorem dX1_isExamAt_12 : decode cX1_isExamAt 12 = .ok (.iload_n 1, 1) := by decide +kernel
theorem dX1_isExamAt_13 : decode cX1_isExamAt 13 = .ok (.baload, 1) := by decide +kernel
theorem dX1_isExamAt_14 : decode cX1_isExamAt 14 = .ok (.ifCond .ne 7, 3) := by decide +kernel
theorem dX1_isExamAt_17 : decode cX1_isExamAt 17 = .ok (.iconst 1, 1) := by decide +kernel
theorem dX1_isExamAt_18 : decode cX1_isExamAt 18 = .ok (.goto 4, 3) := by decide +kernel
theorem dX1_isExamAt_21 : decode cX1_isExamAt 21 = .ok (.iconst 0, 1) := by decide +kernel
theorem dX1_isExamAt_22 : decode cX1_isExamAt 22 = .ok (.ireturn, 1) := by decide +kernel
set_option maxRecDepth 20000 in
theorem ggX1_isForkAt_X1_isPlace : GoodIn wsX1_isForkAt wsX1_isPlace := goodIn_r _ [6, 7, 8, 9, 5, 10, 11, 12, 13, 14, 15, 16, 17, 18, 19, 20, 21, 22, 23] (by decide +kernel) (by decide +kernel)
set_option maxRecDepth 20000 in
theorem gX1_isForkAt_X1_isPlace : GoodIn wsX1_isForkAt (wsV RX1 53 RX1 yX1_isPlace wsX1_isPlace) := goodIn_app (goodIn_of _ (by decide +kernel)) ggX1_isForkAt_X1_isPlace
theorem dX1_isForkAt_0 : decode cX1_isForkAt 0 = .ok (.aload_n 0, 1) := by decide +kernel
theorem dX1_isForkAt_1 : decode cX1_isForkAt 1 = .ok (.iload_n 1, 1) := by decide +kernel
theorem dX1_isForkAt_2 : decode cX1_isForkAt 2 = .ok (.invokevirtual 53, 3) := by decide +kernel
theorem dX1_isForkAt_5 : decode cX1_isForkAt 5 = .ok (.ifCond .eq 16, 3) := by decide +kernel
theorem dX1_isForkAt_8 : decode cX1_isForkAt 8 = .ok (.aload_n 0, 1) := by decide +kernel
theorem dX1_isForkAt_9 : decode cX1_isForkAt 9 = .ok (.getfield 9, 3) := by decide +kernel
theorem dX1_isForkAt_12 : decode cX1_isForkAt 12 = .ok (.iload_n 1, 1) := by decide +kernel
theorem dX1_isForkAt_13 : decode cX1_isForkAt 13 = .ok (.baload, 1) := by decide +kernel
theorem dX1_isForkAt_14 : decode cX1_isForkAt 14 = .ok (.ifCond .eq 7, 3) := by decide +kernel
theorem dX1_isForkAt_17 : decode cX1_isForkAt 17 = .ok (.iconst 1, 1) := by decide +kernel
theorem dX1_isForkAt_18 : decode cX1_isForkAt 18 = .ok (.goto 4, 3) := by decide +kernel
theorem dX1_isForkAt_21 : decode cX1_isForkAt 21 = .ok (.iconst 0, 1) := by decide +kernel
theorem dX1_isForkAt_22 : decode cX1_isForkAt 22 = .ok (.ireturn, 1) := by decide +kernel
set_option maxRecDepth 20000 in
theorem ggX1_isStudent_X1_isIn : GoodIn wsX1_isStudent wsX1_isIn := goodIn_r _ [5] (by decide +kernel) (by decide +kernel)
set_option maxRecDepth 20000 in
theorem gX1_isStudent_X1_isIn : GoodIn wsX1_isStudent (va_wsS RX1 49 yX1_isIn wsX1_isIn) := goodIn_app (goodIn_of _ (by decide +kernel)) ggX1_isStudent_X1_isIn
theorem dX1_isStudent_0 : decode cX1_isStudent 0 = .ok (.iload_n 1, 1) := by decide +kernel
theorem dX1_isStudent_1 : decode cX1_isStudent 1 = .ok (.iconst 0, 1) := by decide +kernel
theorem dX1_isStudent_2 : decode cX1_isStudent 2 = .ok (.aload_n 0, 1) := by decide +kernel
theorem dX1_isStudent_3 : decode cX1_isStudent 3 = .ok (.getfield 57, 3) := by decide +kernel
theorem dX1_isStudent_6 : decode cX1_isStudent 6 = .ok (.iconst 1, 1) := by decide +kernel
theorem dX1_isStudent_7 : decode cX1_isStudent 7 = .ok (.isub, 1) := by decide +kernel
theorem dX1_isStudent_8 : decode cX1_isStudent 8 = .ok (.invokestatic 49, 3) := by decide +kernel
theorem dX1_isStudent_11 : decode cX1_isStudent 11 = .ok (.ireturn, 1) := by decide +kernel
theorem dX1_has_0 : decode cX1_has 0 = .ok (.aload_n 0, 1) := by decide +kernel
theorem dX1_has_1 : decode cX1_has 1 = .ok (.getfield 23, 3) := by decide +kernel
theorem dX1_has_4 : decode cX1_has 4 = .ok (.iload_n 1, 1) := by decide +kernel
theorem dX1_has_5 : decode cX1_has 5 = .ok (.laload, 1) := by decide +kernel
theorem dX1_has_6 : decode cX1_has 6 = .ok (.iload_n 2, 1) := by decide +kernel
theorem dX1_has_7 : decode cX1_has 7 = .ok (.lshr, 1) := by decide +kernel
theorem dX1_has_8 : decode cX1_has 8 = .ok (.lconst 1, 1) := by decide +kernel
theorem dX1_has_9 : decode cX1_has 9 = .ok (.land, 1) := by decide +kernel
theorem dX1_has_10 : decode cX1_has 10 = .ok (.lconst 1, 1) := by decide +kernel
theorem dX1_has_11 : decode cX1_has 11 = .ok (.lcmp, 1) := by decide +kernel
theorem dX1_has_12 : decode cX1_has 12 = .ok (.ifCond .ne 7, 3) := by decide +kernel
theorem dX1_has_15 : decode cX1_has 15 = .ok (.iconst 1, 1) := by decide +kernel
theorem dX1_has_16 : decode cX1_has 16 = .ok (.goto 4, 3) := by decide +kernel
theorem dX1_has_19 : decode cX1_has 19 = .ok (.iconst 0, 1) := by decide +kernel
theorem dX1_has_20 : decode cX1_has 20 = .ok (.ireturn, 1) := by decide +kernel
theorem dX1_table_0 : decode cX1_table 0 = .ok (.iconst 0, 1) := by decide +kernel
theorem dX1_table_1 : decode cX1_table 1 = .ok (.istore_n 1, 1) := by decide +kernel
theorem dX1_table_2 : decode cX1_table 2 = .ok (.iload_n 1, 1) := by decide +kernel
theorem dX1_table_3 : decode cX1_table 3 = .ok (.aload_n 0, 1) := by decide +kernel
theorem dX1_table_4 : decode cX1_table 4 = .ok (.getfield 46, 3) := by decide +kernel
theorem dX1_table_7 : decode cX1_table 7 = .ok (.if_icmp .ge 158, 3) := by decide +kernel
theorem dX1_table_10 : decode cX1_table 10 = .ok (.aload_n 0, 1) := by decide +kernel
theorem dX1_table_11 : decode cX1_table 11 = .ok (.getfield 9, 3) := by decide +kernel
theorem dX1_table_14 : decode cX1_table 14 = .ok (.iload_n 1, 1) := by decide +kernel
theorem dX1_table_15 : decode cX1_table 15 = .ok (.baload, 1) := by decide +kernel
theorem dX1_table_16 : decode cX1_table 16 = .ok (.ifCond .ne 17, 3) := by decide +kernel
theorem dX1_table_19 : decode cX1_table 19 = .ok (.aload_n 0, 1) := by decide +kernel
theorem dX1_table_20 : decode cX1_table 20 = .ok (.getfield 20, 3) := by decide +kernel
theorem dX1_table_23 : decode cX1_table 23 = .ok (.iload_n 1, 1) := by decide +kernel
theorem dX1_table_24 : decode cX1_table 24 = .ok (.iaload, 1) := by decide +kernel
theorem dX1_table_25 : decode cX1_table 25 = .ok (.iconst (-1), 1) := by decide +kernel
theorem dX1_table_26 : decode cX1_table 26 = .ok (.if_icmp .eq 7, 3) := by decide +kernel
theorem dX1_table_29 : decode cX1_table 29 = .ok (.iconst 1, 1) := by decide +kernel
theorem dX1_table_30 : decode cX1_table 30 = .ok (.goto 4, 3) := by decide +kernel
theorem dX1_table_33 : decode cX1_table 33 = .ok (.iconst 0, 1) := by decide +kernel
theorem dX1_table_34 : decode cX1_table 34 = .ok (.istore_n 2, 1) := by decide +kernel
theorem dX1_table_35 : decode cX1_table 35 = .ok (.aload_n 0, 1) := by decide +kernel
theorem dX1_table_36 : decode cX1_table 36 = .ok (.getfield 27, 3) := by decide +kernel
theorem dX1_table_39 : decode cX1_table 39 = .ok (.iload_n 1, 1) := by decide +kernel
theorem dX1_table_40 : decode cX1_table 40 = .ok (.aload_n 0, 1) := by decide +kernel
theorem dX1_table_41 : decode cX1_table 41 = .ok (.getfield 9, 3) := by decide +kernel
theorem dX1_table_44 : decode cX1_table 44 = .ok (.iload_n 1, 1) := by decide +kernel
theorem dX1_table_45 : decode cX1_table 45 = .ok (.baload, 1) := by decide +kernel
theorem dX1_table_46 : decode cX1_table 46 = .ok (.ifCond .eq 31, 3) := by decide +kernel
theorem dX1_table_49 : decode cX1_table 49 = .ok (.aload_n 0, 1) := by decide +kernel
theorem dX1_table_50 : decode cX1_table 50 = .ok (.getfield 27, 3) := by decide +kernel
theorem dX1_table_53 : decode cX1_table 53 = .ok (.aload_n 0, 1) := by decide +kernel
theorem dX1_table_54 : decode cX1_table 54 = .ok (.getfield 13, 3) := by decide +kernel
theorem dX1_table_57 : decode cX1_table 57 = .ok (.iload_n 1, 1) := by decide +kernel
theorem dX1_table_58 : decode cX1_table 58 = .ok (.iaload, 1) := by decide +kernel
theorem dX1_table_59 : decode cX1_table 59 = .ok (.iaload, 1) := by decide +kernel
theorem dX1_table_60 : decode cX1_table 60 = .ok (.aload_n 0, 1) := by decide +kernel
theorem dX1_table_61 : decode cX1_table 61 = .ok (.getfield 27, 3) := by decide +kernel
theorem dX1_table_64 : decode cX1_table 64 = .ok (.aload_n 0, 1) := by decide +kernel
theorem dX1_table_65 : decode cX1_table 65 = .ok (.getfield 17, 3) := by decide +kernel
theorem dX1_table_68 : decode cX1_table 68 = .ok (.iload_n 1, 1) := by decide +kernel
theorem dX1_table_69 : decode cX1_table 69 = .ok (.iaload, 1) := by decide +kernel
theorem dX1_table_70 : decode cX1_table 70 = .ok (.iaload, 1) := by decide +kernel
theorem dX1_table_71 : decode cX1_table 71 = .ok (.invokestatic 60, 3) := by decide +kernel
theorem dX1_table_74 : decode cX1_table 74 = .ok (.goto 22, 3) := by decide +kernel
theorem dX1_table_77 : decode cX1_table 77 = .ok (.iload_n 2, 1) := by decide +kernel
theorem dX1_table_78 : decode cX1_table 78 = .ok (.ifCond .eq 12, 3) := by decide +kernel
theorem dX1_table_81 : decode cX1_table 81 = .ok (.aload_n 0, 1) := by decide +kernel
theorem dX1_table_82 : decode cX1_table 82 = .ok (.getfield 20, 3) := by decide +kernel
theorem dX1_table_85 : decode cX1_table 85 = .ok (.iload_n 1, 1) := by decide +kernel
theorem dX1_table_86 : decode cX1_table 86 = .ok (.iaload, 1) := by decide +kernel
theorem dX1_table_87 : decode cX1_table 87 = .ok (.goto 9, 3) := by decide +kernel
theorem dX1_table_90 : decode cX1_table 90 = .ok (.aload_n 0, 1) := by decide +kernel
theorem dX1_table_91 : decode cX1_table 91 = .ok (.getfield 13, 3) := by decide +kernel
theorem dX1_table_94 : decode cX1_table 94 = .ok (.iload_n 1, 1) := by decide +kernel
theorem dX1_table_95 : decode cX1_table 95 = .ok (.iaload, 1) := by decide +kernel
theorem dX1_table_96 : decode cX1_table 96 = .ok (.iastore, 1) := by decide +kernel
theorem dX1_table_97 : decode cX1_table 97 = .ok (.aload_n 0, 1) := by decide +kernel
theorem dX1_table_98 : decode cX1_table 98 = .ok (.getfield 30, 3) := by decide +kernel
theorem dX1_table_101 : decode cX1_table 101 = .ok (.iload_n 1, 1) := by decide +kernel
theorem dX1_table_102 : decode cX1_table 102 = .ok (.aload_n 0, 1) := by decide +kernel
theorem dX1_table_103 : decode cX1_table 103 = .ok (.getfield 9, 3) := by decide +kernel
theorem dX1_table_106 : decode cX1_table 106 = .ok (.iload_n 1, 1) := by decide +kernel
theorem dX1_table_107 : decode cX1_table 107 = .ok (.baload, 1) := by decide +kernel
theorem dX1_table_108 : decode cX1_table 108 = .ok (.ifCond .eq 31, 3) := by decide +kernel
theorem dX1_table_111 : decode cX1_table 111 = .ok (.aload_n 0, 1) := by decide +kernel
theorem dX1_table_112 : decode cX1_table 112 = .ok (.getfield 30, 3) := by decide +kernel
theorem dX1_table_115 : decode cX1_table 115 = .ok (.aload_n 0, 1) := by decide +kernel
theorem dX1_table_116 : decode cX1_table 116 = .ok (.getfield 13, 3) := by decide +kernel
theorem dX1_table_119 : decode cX1_table 119 = .ok (.iload_n 1, 1) := by decide +kernel
theorem dX1_table_120 : decode cX1_table 120 = .ok (.iaload, 1) := by decide +kernel
theorem dX1_table_121 : decode cX1_table 121 = .ok (.iaload, 1) := by decide +kernel
theorem dX1_table_122 : decode cX1_table 122 = .ok (.aload_n 0, 1) := by decide +kernel
theorem dX1_table_123 : decode cX1_table 123 = .ok (.getfield 30, 3) := by decide +kernel
theorem dX1_table_126 : decode cX1_table 126 = .ok (.aload_n 0, 1) := by decide +kernel
theorem dX1_table_127 : decode cX1_table 127 = .ok (.getfield 17, 3) := by decide +kernel
theorem dX1_table_130 : decode cX1_table 130 = .ok (.iload_n 1, 1) := by decide +kernel
theorem dX1_table_131 : decode cX1_table 131 = .ok (.iaload, 1) := by decide +kernel
theorem dX1_table_132 : decode cX1_table 132 = .ok (.iaload, 1) := by decide +kernel
theorem dX1_table_133 : decode cX1_table 133 = .ok (.invokestatic 60, 3) := by decide +kernel
theorem dX1_table_136 : decode cX1_table 136 = .ok (.goto 22, 3) := by decide +kernel
theorem dX1_table_139 : decode cX1_table 139 = .ok (.iload_n 2, 1) := by decide +kernel
theorem dX1_table_140 : decode cX1_table 140 = .ok (.ifCond .eq 12, 3) := by decide +kernel
theorem dX1_table_143 : decode cX1_table 143 = .ok (.aload_n 0, 1) := by decide +kernel
theorem dX1_table_144 : decode cX1_table 144 = .ok (.getfield 20, 3) := by decide +kernel
theorem dX1_table_147 : decode cX1_table 147 = .ok (.iload_n 1, 1) := by decide +kernel
theorem dX1_table_148 : decode cX1_table 148 = .ok (.iaload, 1) := by decide +kernel
theorem dX1_table_149 : decode cX1_table 149 = .ok (.goto 9, 3) := by decide +kernel
theorem dX1_table_152 : decode cX1_table 152 = .ok (.aload_n 0, 1) := by decide +kernel
theorem dX1_table_153 : decode cX1_table 153 = .ok (.getfield 17, 3) := by decide +kernel
theorem dX1_table_156 : decode cX1_table 156 = .ok (.iload_n 1, 1) := by decide +kernel
theorem dX1_table_157 : decode cX1_table 157 = .ok (.iaload, 1) := by decide +kernel
theorem dX1_table_158 : decode cX1_table 158 = .ok (.iastore, 1) := by decide +kernel
theorem dX1_table_159 : decode cX1_table 159 = .ok (.iinc 1 1, 3) := by decide +kernel
theorem dX1_table_162 : decode cX1_table 162 = .ok (.goto (-160), 3) := by decide +kernel
theorem dX1_table_165 : decode cX1_table 165 = .ok (.return_, 1) := by decide +kernel
theorem dX1_riskOf_0 : decode cX1_riskOf 0 = .ok (.iload_n 2, 1) := by decide +kernel
theorem dX1_riskOf_1 : decode cX1_riskOf 1 = .ok (.ifCond .eq 12, 3) := by decide +kernel
theorem dX1_riskOf_4 : decode cX1_riskOf 4 = .ok (.aload_n 0, 1) := by decide +kernel
theorem dX1_riskOf_5 : decode cX1_riskOf 5 = .ok (.getfield 17, 3) := by decide +kernel
theorem dX1_riskOf_8 : decode cX1_riskOf 8 = .ok (.iload_n 1, 1) := by decide +kernel
theorem dX1_riskOf_9 : decode cX1_riskOf 9 = .ok (.iaload, 1) := by decide +kernel
theorem dX1_riskOf_10 : decode cX1_riskOf 10 = .ok (.goto 9, 3) := by decide +kernel
theorem dX1_riskOf_13 : decode cX1_riskOf 13 = .ok (.aload_n 0, 1) := by decide +kernel
theorem dX1_riskOf_14 : decode cX1_riskOf 14 = .ok (.getfield 13, 3) := by decide +kernel
theorem dX1_riskOf_17 : decode cX1_riskOf 17 = .ok (.iload_n 1, 1) := by decide +kernel
theorem dX1_riskOf_18 : decode cX1_riskOf 18 = .ok (.iaload, 1) := by decide +kernel
theorem dX1_riskOf_19 : decode cX1_riskOf 19 = .ok (.istore_n 3, 1) := by decide +kernel
theorem dX1_riskOf_20 : decode cX1_riskOf 20 = .ok (.iload_n 2, 1) := by decide +kernel
theorem dX1_riskOf_21 : decode cX1_riskOf 21 = .ok (.ifCond .eq 12, 3) := by decide +kernel
theorem dX1_riskOf_24 : decode cX1_riskOf 24 = .ok (.aload_n 0, 1) := by decide +kernel
theorem dX1_riskOf_25 : decode cX1_riskOf 25 = .ok (.getfield 13, 3) := by decide +kernel
theorem dX1_riskOf_28 : decode cX1_riskOf 28 = .ok (.iload_n 1, 1) := by decide +kernel
theorem dX1_riskOf_29 : decode cX1_riskOf 29 = .ok (.iaload, 1) := by decide +kernel
theorem dX1_riskOf_30 : decode cX1_riskOf 30 = .ok (.goto 9, 3) := by decide +kernel
theorem dX1_riskOf_33 : decode cX1_riskOf 33 = .ok (.aload_n 0, 1) := by decide +kernel
theorem dX1_riskOf_34 : decode cX1_riskOf 34 = .ok (.getfield 17, 3) := by decide +kernel
theorem dX1_riskOf_37 : decode cX1_riskOf 37 = .ok (.iload_n 1, 1) := by decide +kernel
theorem dX1_riskOf_38 : decode cX1_riskOf 38 = .ok (.iaload, 1) := by decide +kernel
theorem dX1_riskOf_39 : decode cX1_riskOf 39 = .ok (.istore 4, 2) := by decide +kernel
theorem dX1_riskOf_41 : decode cX1_riskOf 41 = .ok (.iconst 0, 1) := by decide +kernel
theorem dX1_riskOf_42 : decode cX1_riskOf 42 = .ok (.aload_n 0, 1) := by decide +kernel
theorem dX1_riskOf_43 : decode cX1_riskOf 43 = .ok (.getfield 30, 3) := by decide +kernel
theorem dX1_riskOf_46 : decode cX1_riskOf 46 = .ok (.iload 4, 2) := by decide +kernel
theorem dX1_riskOf_48 : decode cX1_riskOf 48 = .ok (.iaload, 1) := by decide +kernel
theorem dX1_riskOf_49 : decode cX1_riskOf 49 = .ok (.aload_n 0, 1) := by decide +kernel
theorem dX1_riskOf_50 : decode cX1_riskOf 50 = .ok (.getfield 27, 3) := by decide +kernel
theorem dX1_riskOf_53 : decode cX1_riskOf 53 = .ok (.iload_n 3, 1) := by decide +kernel
theorem dX1_riskOf_54 : decode cX1_riskOf 54 = .ok (.iaload, 1) := by decide +kernel
theorem dX1_riskOf_55 : decode cX1_riskOf 55 = .ok (.isub, 1) := by decide +kernel
theorem dX1_riskOf_56 : decode cX1_riskOf 56 = .ok (.invokestatic 60, 3) := by decide +kernel
theorem dX1_riskOf_59 : decode cX1_riskOf 59 = .ok (.aload_n 0, 1) := by decide +kernel
theorem dX1_riskOf_60 : decode cX1_riskOf 60 = .ok (.getfield 20, 3) := by decide +kernel
theorem dX1_riskOf_63 : decode cX1_riskOf 63 = .ok (.iload_n 1, 1) := by decide +kernel
theorem dX1_riskOf_64 : decode cX1_riskOf 64 = .ok (.iaload, 1) := by decide +kernel
theorem dX1_riskOf_65 : decode cX1_riskOf 65 = .ok (.imul, 1) := by decide +kernel
theorem dX1_riskOf_66 : decode cX1_riskOf 66 = .ok (.ireturn, 1) := by decide +kernel
set_option maxRecDepth 20000 in
theorem ggX1_turnsRight_X1_riskOf : GoodIn wsX1_turnsRight wsX1_riskOf := goodIn_r _ [5, 6, 7, 8, 9, 10, 11, 12, 13, 14, 15, 16, 17, 18, 19, 20, 21, 22, 23, 24, 25, 26, 27] (by decide +kernel) (by decide +kernel)
set_option maxRecDepth 20000 in
theorem gX1_turnsRight_X1_riskOf : GoodIn wsX1_turnsRight (wsV RX1 66 RX1 yX1_riskOf wsX1_riskOf) := goodIn_app (goodIn_of _ (by decide +kernel)) ggX1_turnsRight_X1_riskOf
theorem dX1_turnsRight_0 : decode cX1_turnsRight 0 = .ok (.aload_n 0, 1) := by decide +kernel
theorem dX1_turnsRight_1 : decode cX1_turnsRight 1 = .ok (.iload_n 1, 1) := by decide +kernel
theorem dX1_turnsRight_2 : decode cX1_turnsRight 2 = .ok (.iconst 1, 1) := by decide +kernel
theorem dX1_turnsRight_3 : decode cX1_turnsRight 3 = .ok (.invokevirtual 66, 3) := by decide +kernel
theorem dX1_turnsRight_6 : decode cX1_turnsRight 6 = .ok (.aload_n 0, 1) := by decide +kernel
theorem dX1_turnsRight_7 : decode cX1_turnsRight 7 = .ok (.iload_n 1, 1) := by decide +kernel
theorem dX1_turnsRight_8 : decode cX1_turnsRight 8 = .ok (.iconst 0, 1) := by decide +kernel
theorem dX1_turnsRight_9 : decode cX1_turnsRight 9 = .ok (.invokevirtual 66, 3) := by decide +kernel
theorem dX1_turnsRight_12 : decode cX1_turnsRight 12 = .ok (.if_icmp .ge 7, 3) := by decide +kernel
theorem dX1_turnsRight_15 : decode cX1_turnsRight 15 = .ok (.iconst 1, 1) := by decide +kernel
theorem dX1_turnsRight_16 : decode cX1_turnsRight 16 = .ok (.goto 4, 3) := by decide +kernel
theorem dX1_turnsRight_19 : decode cX1_turnsRight 19 = .ok (.iconst 0, 1) := by decide +kernel
theorem dX1_turnsRight_20 : decode cX1_turnsRight 20 = .ok (.ireturn, 1) := by decide +kernel
set_option maxRecDepth 20000 in
theorem ggX1_planned_X1_turnsRight : GoodIn wsX1_planned wsX1_turnsRight := goodIn_r _ [7, 8, 9, 10, 6, 11, 1, 2, 12, 13, 14, 15, 16, 17, 18, 19, 20, 21, 22, 23, 24, 25, 26, 27, 28, 29, 30, 31] (by decide +kernel) (by decide +kernel)
set_option maxRecDepth 20000 in
theorem gX1_planned_X1_turnsRight : GoodIn wsX1_planned (wsV RX1 70 RX1 yX1_turnsRight wsX1_turnsRight) := goodIn_app (goodIn_of _ (by decide +kernel)) ggX1_planned_X1_turnsRight
theorem dX1_planned_0 : decode cX1_planned 0 = .ok (.aload_n 0, 1) := by decide +kernel
theorem dX1_planned_1 : decode cX1_planned 1 = .ok (.iload_n 1, 1) := by decide +kernel
theorem dX1_planned_2 : decode cX1_planned 2 = .ok (.invokevirtual 70, 3) := by decide +kernel
theorem dX1_planned_5 : decode cX1_planned 5 = .ok (.ifCond .eq 12, 3) := by decide +kernel
theorem dX1_planned_8 : decode cX1_planned 8 = .ok (.aload_n 0, 1) := by decide +kernel
theorem dX1_planned_9 : decode cX1_planned 9 = .ok (.getfield 17, 3) := by decide +kernel
theorem dX1_planned_12 : decode cX1_planned 12 = .ok (.iload_n 1, 1) := by decide +kernel
theorem dX1_planned_13 : decode cX1_planned 13 = .ok (.iaload, 1) := by decide +kernel
theorem dX1_planned_14 : decode cX1_planned 14 = .ok (.goto 9, 3) := by decide +kernel
theorem dX1_planned_17 : decode cX1_planned 17 = .ok (.aload_n 0, 1) := by decide +kernel
theorem dX1_planned_18 : decode cX1_planned 18 = .ok (.getfield 13, 3) := by decide +kernel
theorem dX1_planned_21 : decode cX1_planned 21 = .ok (.iload_n 1, 1) := by decide +kernel
theorem dX1_planned_22 : decode cX1_planned 22 = .ok (.iaload, 1) := by decide +kernel
theorem dX1_planned_23 : decode cX1_planned 23 = .ok (.ireturn, 1) := by decide +kernel
set_option maxRecDepth 20000 in
theorem ggX1_leads_X1_planned : GoodIn wsX1_leads wsX1_planned := goodIn_r _ [6, 7, 8, 9, 10, 11, 5, 12, 13, 14, 15, 16, 17, 18, 19, 20, 21, 22, 23, 24, 25, 26, 27, 28, 29, 30, 31, 32, 33, 34, 35, 36] (by decide +kernel) (by decide +kernel)
set_option maxRecDepth 20000 in
theorem gX1_leads_X1_planned : GoodIn wsX1_leads (wsV RX1 73 RX1 yX1_planned wsX1_planned) := goodIn_app (goodIn_of _ (by decide +kernel)) ggX1_leads_X1_planned
theorem dX1_leads_0 : decode cX1_leads 0 = .ok (.iload_n 1, 1) := by decide +kernel
theorem dX1_leads_1 : decode cX1_leads 1 = .ok (.istore_n 2, 1) := by decide +kernel
theorem dX1_leads_2 : decode cX1_leads 2 = .ok (.aload_n 0, 1) := by decide +kernel
theorem dX1_leads_3 : decode cX1_leads 3 = .ok (.getfield 9, 3) := by decide +kernel
theorem dX1_leads_6 : decode cX1_leads 6 = .ok (.iload_n 2, 1) := by decide +kernel
theorem dX1_leads_7 : decode cX1_leads 7 = .ok (.baload, 1) := by decide +kernel
theorem dX1_leads_8 : decode cX1_leads 8 = .ok (.ifCond .eq 12, 3) := by decide +kernel
theorem dX1_leads_11 : decode cX1_leads 11 = .ok (.aload_n 0, 1) := by decide +kernel
theorem dX1_leads_12 : decode cX1_leads 12 = .ok (.iload_n 2, 1) := by decide +kernel
theorem dX1_leads_13 : decode cX1_leads 13 = .ok (.invokevirtual 73, 3) := by decide +kernel
theorem dX1_leads_16 : decode cX1_leads 16 = .ok (.istore_n 2, 1) := by decide +kernel
theorem dX1_leads_17 : decode cX1_leads 17 = .ok (.goto (-15), 3) := by decide +kernel
theorem dX1_leads_20 : decode cX1_leads 20 = .ok (.iload_n 2, 1) := by decide +kernel
theorem dX1_leads_21 : decode cX1_leads 21 = .ok (.ireturn, 1) := by decide +kernel
set_option maxRecDepth 20000 in
theorem ggX1_examsOf_X1_has : GoodIn wsX1_examsOf wsX1_has := goodIn_r _ [6, 7, 8, 9, 10, 11, 12, 13, 14, 15, 16, 17, 18, 19, 20] (by decide +kernel) (by decide +kernel)
set_option maxRecDepth 20000 in
theorem gX1_examsOf_X1_has : GoodIn wsX1_examsOf (wsV RX1 77 RX1 yX1_has wsX1_has) := goodIn_app (goodIn_of _ (by decide +kernel)) ggX1_examsOf_X1_has
theorem dX1_examsOf_0 : decode cX1_examsOf 0 = .ok (.iconst 0, 1) := by decide +kernel
theorem dX1_examsOf_1 : decode cX1_examsOf 1 = .ok (.istore_n 2, 1) := by decide +kernel
theorem dX1_examsOf_2 : decode cX1_examsOf 2 = .ok (.iconst 0, 1) := by decide +kernel
theorem dX1_examsOf_3 : decode cX1_examsOf 3 = .ok (.istore_n 3, 1) := by decide +kernel
theorem dX1_examsOf_4 : decode cX1_examsOf 4 = .ok (.iload_n 3, 1) := by decide +kernel
theorem dX1_examsOf_5 : decode cX1_examsOf 5 = .ok (.iload_n 1, 1) := by decide +kernel
theorem dX1_examsOf_6 : decode cX1_examsOf 6 = .ok (.if_icmp .gt 35, 3) := by decide +kernel
theorem dX1_examsOf_9 : decode cX1_examsOf 9 = .ok (.iload_n 2, 1) := by decide +kernel
theorem dX1_examsOf_10 : decode cX1_examsOf 10 = .ok (.aload_n 0, 1) := by decide +kernel
theorem dX1_examsOf_11 : decode cX1_examsOf 11 = .ok (.iload_n 1, 1) := by decide +kernel
theorem dX1_examsOf_12 : decode cX1_examsOf 12 = .ok (.iload_n 3, 1) := by decide +kernel
theorem dX1_examsOf_13 : decode cX1_examsOf 13 = .ok (.invokevirtual 77, 3) := by decide +kernel
theorem dX1_examsOf_16 : decode cX1_examsOf 16 = .ok (.ifCond .eq 16, 3) := by decide +kernel
theorem dX1_examsOf_19 : decode cX1_examsOf 19 = .ok (.aload_n 0, 1) := by decide +kernel
theorem dX1_examsOf_20 : decode cX1_examsOf 20 = .ok (.getfield 9, 3) := by decide +kernel
theorem dX1_examsOf_23 : decode cX1_examsOf 23 = .ok (.iload_n 3, 1) := by decide +kernel
theorem dX1_examsOf_24 : decode cX1_examsOf 24 = .ok (.baload, 1) := by decide +kernel
theorem dX1_examsOf_25 : decode cX1_examsOf 25 = .ok (.ifCond .ne 7, 3) := by decide +kernel
theorem dX1_examsOf_28 : decode cX1_examsOf 28 = .ok (.iconst 1, 1) := by decide +kernel
theorem dX1_examsOf_29 : decode cX1_examsOf 29 = .ok (.goto 4, 3) := by decide +kernel
theorem dX1_examsOf_32 : decode cX1_examsOf 32 = .ok (.iconst 0, 1) := by decide +kernel
theorem dX1_examsOf_33 : decode cX1_examsOf 33 = .ok (.iadd, 1) := by decide +kernel
theorem dX1_examsOf_34 : decode cX1_examsOf 34 = .ok (.istore_n 2, 1) := by decide +kernel
theorem dX1_examsOf_35 : decode cX1_examsOf 35 = .ok (.iinc 3 1, 3) := by decide +kernel
theorem dX1_examsOf_38 : decode cX1_examsOf 38 = .ok (.goto (-34), 3) := by decide +kernel
theorem dX1_examsOf_41 : decode cX1_examsOf 41 = .ok (.iload_n 2, 1) := by decide +kernel
theorem dX1_examsOf_42 : decode cX1_examsOf 42 = .ok (.ireturn, 1) := by decide +kernel
set_option maxRecDepth 20000 in
theorem ggX1_riskiest_X1_riskOf : GoodIn wsX1_riskiest wsX1_riskOf := goodIn_r _ [11, 12, 13, 14, 15, 16, 17, 5, 18, 19, 20, 21, 22, 23, 24, 25, 26, 27, 28, 29, 30, 31, 32] (by decide +kernel) (by decide +kernel)
set_option maxRecDepth 20000 in
theorem gX1_riskiest_X1_riskOf : GoodIn wsX1_riskiest (wsV RX1 66 RX1 yX1_riskOf wsX1_riskOf) := goodIn_app (goodIn_of _ (by decide +kernel)) ggX1_riskiest_X1_riskOf
theorem dX1_riskiest_0 : decode cX1_riskiest 0 = .ok (.iconst (-1), 1) := by decide +kernel
theorem dX1_riskiest_1 : decode cX1_riskiest 1 = .ok (.istore_n 1, 1) := by decide +kernel
theorem dX1_riskiest_2 : decode cX1_riskiest 2 = .ok (.iconst (-1), 1) := by decide +kernel
theorem dX1_riskiest_3 : decode cX1_riskiest 3 = .ok (.istore_n 2, 1) := by decide +kernel
theorem dX1_riskiest_4 : decode cX1_riskiest 4 = .ok (.iconst 0, 1) := by decide +kernel
theorem dX1_riskiest_5 : decode cX1_riskiest 5 = .ok (.istore_n 3, 1) := by decide +kernel
theorem dX1_riskiest_6 : decode cX1_riskiest 6 = .ok (.iload_n 3, 1) := by decide +kernel
theorem dX1_riskiest_7 : decode cX1_riskiest 7 = .ok (.aload_n 0, 1) := by decide +kernel
theorem dX1_riskiest_8 : decode cX1_riskiest 8 = .ok (.getfield 46, 3) := by decide +kernel
theorem dX1_riskiest_11 : decode cX1_riskiest 11 = .ok (.if_icmp .ge 53, 3) := by decide +kernel
theorem dX1_riskiest_14 : decode cX1_riskiest 14 = .ok (.aload_n 0, 1) := by decide +kernel
theorem dX1_riskiest_15 : decode cX1_riskiest 15 = .ok (.getfield 9, 3) := by decide +kernel
theorem dX1_riskiest_18 : decode cX1_riskiest 18 = .ok (.iload_n 3, 1) := by decide +kernel
theorem dX1_riskiest_19 : decode cX1_riskiest 19 = .ok (.baload, 1) := by decide +kernel
theorem dX1_riskiest_20 : decode cX1_riskiest 20 = .ok (.ifCond .eq 21, 3) := by decide +kernel
theorem dX1_riskiest_23 : decode cX1_riskiest 23 = .ok (.aload_n 0, 1) := by decide +kernel
theorem dX1_riskiest_24 : decode cX1_riskiest 24 = .ok (.iload_n 3, 1) := by decide +kernel
theorem dX1_riskiest_25 : decode cX1_riskiest 25 = .ok (.iconst 1, 1) := by decide +kernel
theorem dX1_riskiest_26 : decode cX1_riskiest 26 = .ok (.invokevirtual 66, 3) := by decide +kernel
theorem dX1_riskiest_29 : decode cX1_riskiest 29 = .ok (.aload_n 0, 1) := by decide +kernel
theorem dX1_riskiest_30 : decode cX1_riskiest 30 = .ok (.iload_n 3, 1) := by decide +kernel
theorem dX1_riskiest_31 : decode cX1_riskiest 31 = .ok (.iconst 0, 1) := by decide +kernel
theorem dX1_riskiest_32 : decode cX1_riskiest 32 = .ok (.invokevirtual 66, 3) := by decide +kernel
theorem dX1_riskiest_35 : decode cX1_riskiest 35 = .ok (.invokestatic 81, 3) := by decide +kernel
theorem dX1_riskiest_38 : decode cX1_riskiest 38 = .ok (.goto 4, 3) := by decide +kernel
theorem dX1_riskiest_41 : decode cX1_riskiest 41 = .ok (.iconst (-1), 1) := by decide +kernel
theorem dX1_riskiest_42 : decode cX1_riskiest 42 = .ok (.istore 4, 2) := by decide +kernel
theorem dX1_riskiest_44 : decode cX1_riskiest 44 = .ok (.iload 4, 2) := by decide +kernel
theorem dX1_riskiest_46 : decode cX1_riskiest 46 = .ok (.iload_n 2, 1) := by decide +kernel
theorem dX1_riskiest_47 : decode cX1_riskiest 47 = .ok (.if_icmp .gt 6, 3) := by decide +kernel
theorem dX1_riskiest_50 : decode cX1_riskiest 50 = .ok (.goto 8, 3) := by decide +kernel
theorem dX1_riskiest_53 : decode cX1_riskiest 53 = .ok (.iload_n 3, 1) := by decide +kernel
theorem dX1_riskiest_54 : decode cX1_riskiest 54 = .ok (.istore_n 1, 1) := by decide +kernel
theorem dX1_riskiest_55 : decode cX1_riskiest 55 = .ok (.iload 4, 2) := by decide +kernel
theorem dX1_riskiest_57 : decode cX1_riskiest 57 = .ok (.istore_n 2, 1) := by decide +kernel
theorem dX1_riskiest_58 : decode cX1_riskiest 58 = .ok (.iinc 3 1, 3) := by decide +kernel
theorem dX1_riskiest_61 : decode cX1_riskiest 61 = .ok (.goto (-55), 3) := by decide +kernel
theorem dX1_riskiest_64 : decode cX1_riskiest 64 = .ok (.iload_n 1, 1) := by decide +kernel
theorem dX1_riskiest_65 : decode cX1_riskiest 65 = .ok (.ireturn, 1) := by decide +kernel
set_option maxRecDepth 20000 in
theorem ggX1_behind_X1_has : GoodIn wsX1_behind wsX1_has := goodIn_r _ [11, 12, 13, 14, 15, 16, 17, 18, 19, 20, 21, 22, 23, 24, 25] (by decide +kernel) (by decide +kernel)
set_option maxRecDepth 20000 in
theorem gX1_behind_X1_has : GoodIn wsX1_behind (wsV RX1 77 RX1 yX1_has wsX1_has) := goodIn_app (goodIn_of _ (by decide +kernel)) ggX1_behind_X1_has
theorem dX1_behind_0 : decode cX1_behind 0 = .ok (.iconst 0, 1) := by decide +kernel
theorem dX1_behind_1 : decode cX1_behind 1 = .ok (.istore_n 2, 1) := by decide +kernel
theorem dX1_behind_2 : decode cX1_behind 2 = .ok (.iconst 0, 1) := by decide +kernel
theorem dX1_behind_3 : decode cX1_behind 3 = .ok (.istore_n 3, 1) := by decide +kernel
theorem dX1_behind_4 : decode cX1_behind 4 = .ok (.iload_n 3, 1) := by decide +kernel
theorem dX1_behind_5 : decode cX1_behind 5 = .ok (.iload_n 1, 1) := by decide +kernel
theorem dX1_behind_6 : decode cX1_behind 6 = .ok (.if_icmp .ge 38, 3) := by decide +kernel
theorem dX1_behind_9 : decode cX1_behind 9 = .ok (.aload_n 0, 1) := by decide +kernel
theorem dX1_behind_10 : decode cX1_behind 10 = .ok (.iload_n 1, 1) := by decide +kernel
theorem dX1_behind_11 : decode cX1_behind 11 = .ok (.iload_n 3, 1) := by decide +kernel
theorem dX1_behind_12 : decode cX1_behind 12 = .ok (.invokevirtual 77, 3) := by decide +kernel
theorem dX1_behind_15 : decode cX1_behind 15 = .ok (.ifCond .eq 23, 3) := by decide +kernel
theorem dX1_behind_18 : decode cX1_behind 18 = .ok (.aload_n 0, 1) := by decide +kernel
theorem dX1_behind_19 : decode cX1_behind 19 = .ok (.getfield 9, 3) := by decide +kernel
theorem dX1_behind_22 : decode cX1_behind 22 = .ok (.iload_n 3, 1) := by decide +kernel
theorem dX1_behind_23 : decode cX1_behind 23 = .ok (.baload, 1) := by decide +kernel
theorem dX1_behind_24 : decode cX1_behind 24 = .ok (.ifCond .ne 14, 3) := by decide +kernel
theorem dX1_behind_27 : decode cX1_behind 27 = .ok (.iload_n 2, 1) := by decide +kernel
theorem dX1_behind_28 : decode cX1_behind 28 = .ok (.aload_n 0, 1) := by decide +kernel
theorem dX1_behind_29 : decode cX1_behind 29 = .ok (.getfield 20, 3) := by decide +kernel
theorem dX1_behind_32 : decode cX1_behind 32 = .ok (.iload_n 3, 1) := by decide +kernel
theorem dX1_behind_33 : decode cX1_behind 33 = .ok (.iaload, 1) := by decide +kernel
theorem dX1_behind_34 : decode cX1_behind 34 = .ok (.invokestatic 60, 3) := by decide +kernel
theorem dX1_behind_37 : decode cX1_behind 37 = .ok (.istore_n 2, 1) := by decide +kernel
theorem dX1_behind_38 : decode cX1_behind 38 = .ok (.iinc 3 1, 3) := by decide +kernel
theorem dX1_behind_41 : decode cX1_behind 41 = .ok (.goto (-37), 3) := by decide +kernel
theorem dX1_behind_44 : decode cX1_behind 44 = .ok (.iload_n 2, 1) := by decide +kernel
theorem dX1_behind_45 : decode cX1_behind 45 = .ok (.ireturn, 1) := by decide +kernel
theorem dX1_isKnown_0 : decode cX1_isKnown 0 = .ok (.aload_n 0, 1) := by decide +kernel
theorem dX1_isKnown_1 : decode cX1_isKnown 1 = .ok (.getfield 9, 3) := by decide +kernel
theorem dX1_isKnown_4 : decode cX1_isKnown 4 = .ok (.aload_n 0, 1) := by decide +kernel
theorem dX1_isKnown_5 : decode cX1_isKnown 5 = .ok (.getfield 33, 3) := by decide +kernel
theorem dX1_isKnown_8 : decode cX1_isKnown 8 = .ok (.iload_n 1, 1) := by decide +kernel
theorem dX1_isKnown_9 : decode cX1_isKnown 9 = .ok (.iaload, 1) := by decide +kernel
theorem dX1_isKnown_10 : decode cX1_isKnown 10 = .ok (.baload, 1) := by decide +kernel
theorem dX1_isKnown_11 : decode cX1_isKnown 11 = .ok (.ifCond .ne 22, 3) := by decide +kernel
theorem dX1_isKnown_14 : decode cX1_isKnown 14 = .ok (.aload_n 0, 1) := by decide +kernel
theorem dX1_isKnown_15 : decode cX1_isKnown 15 = .ok (.getfield 20, 3) := by decide +kernel
theorem dX1_isKnown_18 : decode cX1_isKnown 18 = .ok (.aload_n 0, 1) := by decide +kernel
theorem dX1_isKnown_19 : decode cX1_isKnown 19 = .ok (.getfield 33, 3) := by decide +kernel
theorem dX1_isKnown_22 : decode cX1_isKnown 22 = .ok (.iload_n 1, 1) := by decide +kernel
theorem dX1_isKnown_23 : decode cX1_isKnown 23 = .ok (.iaload, 1) := by decide +kernel
theorem dX1_isKnown_24 : decode cX1_isKnown 24 = .ok (.iaload, 1) := by decide +kernel
theorem dX1_isKnown_25 : decode cX1_isKnown 25 = .ok (.iconst (-1), 1) := by decide +kernel
theorem dX1_isKnown_26 : decode cX1_isKnown 26 = .ok (.if_icmp .eq 7, 3) := by decide +kernel
theorem dX1_isKnown_29 : decode cX1_isKnown 29 = .ok (.iconst 1, 1) := by decide +kernel
theorem dX1_isKnown_30 : decode cX1_isKnown 30 = .ok (.goto 4, 3) := by decide +kernel
theorem dX1_isKnown_33 : decode cX1_isKnown 33 = .ok (.iconst 0, 1) := by decide +kernel
theorem dX1_isKnown_34 : decode cX1_isKnown 34 = .ok (.ireturn, 1) := by decide +kernel
set_option maxRecDepth 20000 in
theorem ggX1_regret_X1_behind : GoodIn wsX1_regret wsX1_behind := goodIn_r _ [12, 13, 2, 4, 5, 6, 7, 14, 15, 16, 11, 17, 18, 19, 20, 21, 22, 23, 24, 25, 26, 27, 28, 29, 30, 31] (by decide +kernel) (by decide +kernel)
set_option maxRecDepth 20000 in
theorem gX1_regret_X1_behind : GoodIn wsX1_regret (wsV RX1 84 RX1 yX1_behind wsX1_behind) := goodIn_app (goodIn_of _ (by decide +kernel)) ggX1_regret_X1_behind
theorem dX1_regret_0 : decode cX1_regret 0 = .ok (.aload_n 0, 1) := by decide +kernel
theorem dX1_regret_1 : decode cX1_regret 1 = .ok (.getfield 39, 3) := by decide +kernel
theorem dX1_regret_4 : decode cX1_regret 4 = .ok (.bipush 40, 2) := by decide +kernel
theorem dX1_regret_6 : decode cX1_regret 6 = .ok (.iload_n 1, 1) := by decide +kernel
theorem dX1_regret_7 : decode cX1_regret 7 = .ok (.imul, 1) := by decide +kernel
theorem dX1_regret_8 : decode cX1_regret 8 = .ok (.iload_n 2, 1) := by decide +kernel
theorem dX1_regret_9 : decode cX1_regret 9 = .ok (.iadd, 1) := by decide +kernel
theorem dX1_regret_10 : decode cX1_regret 10 = .ok (.iaload, 1) := by decide +kernel
theorem dX1_regret_11 : decode cX1_regret 11 = .ok (.istore_n 3, 1) := by decide +kernel
theorem dX1_regret_12 : decode cX1_regret 12 = .ok (.iconst 0, 1) := by decide +kernel
theorem dX1_regret_13 : decode cX1_regret 13 = .ok (.aload_n 0, 1) := by decide +kernel
theorem dX1_regret_14 : decode cX1_regret 14 = .ok (.iload_n 3, 1) := by decide +kernel
theorem dX1_regret_15 : decode cX1_regret 15 = .ok (.invokevirtual 84, 3) := by decide +kernel
theorem dX1_regret_18 : decode cX1_regret 18 = .ok (.aload_n 0, 1) := by decide +kernel
theorem dX1_regret_19 : decode cX1_regret 19 = .ok (.getfield 20, 3) := by decide +kernel
theorem dX1_regret_22 : decode cX1_regret 22 = .ok (.aload_n 0, 1) := by decide +kernel
theorem dX1_regret_23 : decode cX1_regret 23 = .ok (.getfield 33, 3) := by decide +kernel
theorem dX1_regret_26 : decode cX1_regret 26 = .ok (.iload_n 1, 1) := by decide +kernel
theorem dX1_regret_27 : decode cX1_regret 27 = .ok (.iaload, 1) := by decide +kernel
theorem dX1_regret_28 : decode cX1_regret 28 = .ok (.iaload, 1) := by decide +kernel
theorem dX1_regret_29 : decode cX1_regret 29 = .ok (.isub, 1) := by decide +kernel
theorem dX1_regret_30 : decode cX1_regret 30 = .ok (.invokestatic 60, 3) := by decide +kernel
theorem dX1_regret_33 : decode cX1_regret 33 = .ok (.aload_n 0, 1) := by decide +kernel
theorem dX1_regret_34 : decode cX1_regret 34 = .ok (.getfield 20, 3) := by decide +kernel
theorem dX1_regret_37 : decode cX1_regret 37 = .ok (.iload_n 3, 1) := by decide +kernel
theorem dX1_regret_38 : decode cX1_regret 38 = .ok (.iaload, 1) := by decide +kernel
theorem dX1_regret_39 : decode cX1_regret 39 = .ok (.imul, 1) := by decide +kernel
theorem dX1_regret_40 : decode cX1_regret 40 = .ok (.ireturn, 1) := by decide +kernel
set_option maxRecDepth 20000 in
theorem ggX1_regrets_X1_regret : GoodIn wsX1_regrets wsX1_regret := goodIn_r _ [6, 7, 8, 9, 10, 11, 12, 13, 14, 15, 16, 5, 17, 18, 19, 20, 21, 22, 23, 24, 25, 26, 27, 28, 29, 30, 31, 32, 33, 34, 35, 36] (by decide +kernel) (by decide +kernel)
set_option maxRecDepth 20000 in
theorem gX1_regrets_X1_regret : GoodIn wsX1_regrets (wsV RX1 87 RX1 yX1_regret wsX1_regret) := goodIn_app (goodIn_of _ (by decide +kernel)) ggX1_regrets_X1_regret
theorem dX1_regrets_0 : decode cX1_regrets 0 = .ok (.iconst 0, 1) := by decide +kernel
theorem dX1_regrets_1 : decode cX1_regrets 1 = .ok (.istore_n 2, 1) := by decide +kernel
theorem dX1_regrets_2 : decode cX1_regrets 2 = .ok (.iconst 0, 1) := by decide +kernel
theorem dX1_regrets_3 : decode cX1_regrets 3 = .ok (.istore_n 3, 1) := by decide +kernel
theorem dX1_regrets_4 : decode cX1_regrets 4 = .ok (.iload_n 3, 1) := by decide +kernel
theorem dX1_regrets_5 : decode cX1_regrets 5 = .ok (.aload_n 0, 1) := by decide +kernel
theorem dX1_regrets_6 : decode cX1_regrets 6 = .ok (.getfield 36, 3) := by decide +kernel
theorem dX1_regrets_9 : decode cX1_regrets 9 = .ok (.iload_n 1, 1) := by decide +kernel
theorem dX1_regrets_10 : decode cX1_regrets 10 = .ok (.iaload, 1) := by decide +kernel
theorem dX1_regrets_11 : decode cX1_regrets 11 = .ok (.if_icmp .ge 18, 3) := by decide +kernel
theorem dX1_regrets_14 : decode cX1_regrets 14 = .ok (.iload_n 2, 1) := by decide +kernel
theorem dX1_regrets_15 : decode cX1_regrets 15 = .ok (.aload_n 0, 1) := by decide +kernel
theorem dX1_regrets_16 : decode cX1_regrets 16 = .ok (.iload_n 1, 1) := by decide +kernel
theorem dX1_regrets_17 : decode cX1_regrets 17 = .ok (.iload_n 3, 1) := by decide +kernel
theorem dX1_regrets_18 : decode cX1_regrets 18 = .ok (.invokevirtual 87, 3) := by decide +kernel
theorem dX1_regrets_21 : decode cX1_regrets 21 = .ok (.iadd, 1) := by decide +kernel
theorem dX1_regrets_22 : decode cX1_regrets 22 = .ok (.istore_n 2, 1) := by decide +kernel
theorem dX1_regrets_23 : decode cX1_regrets 23 = .ok (.iinc 3 1, 3) := by decide +kernel
theorem dX1_regrets_26 : decode cX1_regrets 26 = .ok (.goto (-22), 3) := by decide +kernel
theorem dX1_regrets_29 : decode cX1_regrets 29 = .ok (.iload_n 2, 1) := by decide +kernel
theorem dX1_regrets_30 : decode cX1_regrets 30 = .ok (.ireturn, 1) := by decide +kernel
set_option maxRecDepth 20000 in
theorem ggX1_allRegrets_X1_isKnown : GoodIn wsX1_allRegrets wsX1_isKnown := goodIn_r _ [6, 7, 8, 9, 33, 34, 35, 36, 37, 38, 39, 40, 41, 42, 43, 44, 45] (by decide +kernel) (by decide +kernel)
set_option maxRecDepth 20000 in
theorem gX1_allRegrets_X1_isKnown : GoodIn wsX1_allRegrets (wsV RX1 90 RX1 yX1_isKnown wsX1_isKnown) := goodIn_app (goodIn_of _ (by decide +kernel)) ggX1_allRegrets_X1_isKnown
set_option maxRecDepth 20000 in
theorem ggX1_allRegrets_X1_regrets : GoodIn wsX1_allRegrets wsX1_regrets := goodIn_r _ [13, 14, 15, 16, 17, 5, 18, 19, 9, 8, 20, 21, 22, 23, 24, 25, 26, 27, 7, 28, 29, 30, 31, 32, 33, 34, 35, 36, 37, 38, 39, 40, 41, 42, 43, 44, 45] (by decide +kernel) (by decide +kernel)
set_option maxRecDepth 20000 in
theorem gX1_allRegrets_X1_regrets : GoodIn wsX1_allRegrets (wsV RX1 93 RX1 yX1_regrets wsX1_regrets) := goodIn_app (goodIn_of _ (by decide +kernel)) ggX1_allRegrets_X1_regrets
theorem dX1_allRegrets_0 : decode cX1_allRegrets 0 = .ok (.iconst 0, 1) := by decide +kernel
theorem dX1_allRegrets_1 : decode cX1_allRegrets 1 = .ok (.istore_n 1, 1) := by decide +kernel
theorem dX1_allRegrets_2 : decode cX1_allRegrets 2 = .ok (.iconst 0, 1) := by decide +kernel
theorem dX1_allRegrets_3 : decode cX1_allRegrets 3 = .ok (.istore_n 2, 1) := by decide +kernel
theorem dX1_allRegrets_4 : decode cX1_allRegrets 4 = .ok (.iload_n 2, 1) := by decide +kernel
theorem dX1_allRegrets_5 : decode cX1_allRegrets 5 = .ok (.aload_n 0, 1) := by decide +kernel
theorem dX1_allRegrets_6 : decode cX1_allRegrets 6 = .ok (.getfield 57, 3) := by decide +kernel
theorem dX1_allRegrets_9 : decode cX1_allRegrets 9 = .ok (.if_icmp .ge 29, 3) := by decide +kernel
theorem dX1_allRegrets_12 : decode cX1_allRegrets 12 = .ok (.iload_n 1, 1) := by decide +kernel
theorem dX1_allRegrets_13 : decode cX1_allRegrets 13 = .ok (.aload_n 0, 1) := by decide +kernel
theorem dX1_allRegrets_14 : decode cX1_allRegrets 14 = .ok (.iload_n 2, 1) := by decide +kernel
theorem dX1_allRegrets_15 : decode cX1_allRegrets 15 = .ok (.invokevirtual 90, 3) := by decide +kernel
theorem dX1_allRegrets_18 : decode cX1_allRegrets 18 = .ok (.ifCond .eq 11, 3) := by decide +kernel
theorem dX1_allRegrets_21 : decode cX1_allRegrets 21 = .ok (.aload_n 0, 1) := by decide +kernel
theorem dX1_allRegrets_22 : decode cX1_allRegrets 22 = .ok (.iload_n 2, 1) := by decide +kernel
theorem dX1_allRegrets_23 : decode cX1_allRegrets 23 = .ok (.invokevirtual 93, 3) := by decide +kernel
theorem dX1_allRegrets_26 : decode cX1_allRegrets 26 = .ok (.goto 4, 3) := by decide +kernel
theorem dX1_allRegrets_29 : decode cX1_allRegrets 29 = .ok (.iconst 0, 1) := by decide +kernel
theorem dX1_allRegrets_30 : decode cX1_allRegrets 30 = .ok (.iadd, 1) := by decide +kernel
theorem dX1_allRegrets_31 : decode cX1_allRegrets 31 = .ok (.istore_n 1, 1) := by decide +kernel
theorem dX1_allRegrets_32 : decode cX1_allRegrets 32 = .ok (.iinc 2 1, 3) := by decide +kernel
theorem dX1_allRegrets_35 : decode cX1_allRegrets 35 = .ok (.goto (-31), 3) := by decide +kernel
theorem dX1_allRegrets_38 : decode cX1_allRegrets 38 = .ok (.iload_n 1, 1) := by decide +kernel
theorem dX1_allRegrets_39 : decode cX1_allRegrets 39 = .ok (.ireturn, 1) := by decide +kernel
set_option maxRecDepth 20000 in
theorem ggX1_addExam_X1_no : GoodIn wsX1_addExam wsX1_no := goodIn_r _ [11, 1, 12, 13, 14, 15, 16, 17, 18, 19, 20, 21, 22, 23, 24] (by decide +kernel) (by decide +kernel)
set_option maxRecDepth 20000 in
theorem gX1_addExam_X1_no : GoodIn wsX1_addExam (wsV RX1 96 RX1 yX1_no wsX1_no) := goodIn_app (goodIn_of _ (by decide +kernel)) ggX1_addExam_X1_no
theorem dX1_addExam_0 : decode cX1_addExam 0 = .ok (.aload_n 0, 1) := by decide +kernel
theorem dX1_addExam_1 : decode cX1_addExam 1 = .ok (.iconst 0, 1) := by decide +kernel
theorem dX1_addExam_2 : decode cX1_addExam 2 = .ok (.putfield 42, 3) := by decide +kernel
theorem dX1_addExam_5 : decode cX1_addExam 5 = .ok (.iload_n 1, 1) := by decide +kernel
theorem dX1_addExam_6 : decode cX1_addExam 6 = .ok (.ifCond .lt 14, 3) := by decide +kernel
theorem dX1_addExam_9 : decode cX1_addExam 9 = .ok (.iload_n 2, 1) := by decide +kernel
theorem dX1_addExam_10 : decode cX1_addExam 10 = .ok (.bipush 20, 2) := by decide +kernel
theorem dX1_addExam_12 : decode cX1_addExam 12 = .ok (.if_icmp .gt 8, 3) := by decide +kernel
theorem dX1_addExam_15 : decode cX1_addExam 15 = .ok (.iload_n 2, 1) := by decide +kernel
theorem dX1_addExam_16 : decode cX1_addExam 16 = .ok (.iload_n 1, 1) := by decide +kernel
theorem dX1_addExam_17 : decode cX1_addExam 17 = .ok (.if_icmp .ge 9, 3) := by decide +kernel
theorem dX1_addExam_20 : decode cX1_addExam 20 = .ok (.aload_n 0, 1) := by decide +kernel
theorem dX1_addExam_21 : decode cX1_addExam 21 = .ok (.iconst 1, 1) := by decide +kernel
theorem dX1_addExam_22 : decode cX1_addExam 22 = .ok (.invokevirtual 96, 3) := by decide +kernel
theorem dX1_addExam_25 : decode cX1_addExam 25 = .ok (.ireturn, 1) := by decide +kernel
theorem dX1_addExam_26 : decode cX1_addExam 26 = .ok (.aload_n 0, 1) := by decide +kernel
theorem dX1_addExam_27 : decode cX1_addExam 27 = .ok (.getfield 46, 3) := by decide +kernel
theorem dX1_addExam_30 : decode cX1_addExam 30 = .ok (.bipush 40, 2) := by decide +kernel
theorem dX1_addExam_32 : decode cX1_addExam 32 = .ok (.if_icmp .ne 9, 3) := by decide +kernel
theorem dX1_addExam_35 : decode cX1_addExam 35 = .ok (.aload_n 0, 1) := by decide +kernel
theorem dX1_addExam_36 : decode cX1_addExam 36 = .ok (.iconst 2, 1) := by decide +kernel
theorem dX1_addExam_37 : decode cX1_addExam 37 = .ok (.invokevirtual 96, 3) := by decide +kernel
theorem dX1_addExam_40 : decode cX1_addExam 40 = .ok (.ireturn, 1) := by decide +kernel
theorem dX1_addExam_41 : decode cX1_addExam 41 = .ok (.aload_n 0, 1) := by decide +kernel
theorem dX1_addExam_42 : decode cX1_addExam 42 = .ok (.getfield 13, 3) := by decide +kernel
theorem dX1_addExam_45 : decode cX1_addExam 45 = .ok (.aload_n 0, 1) := by decide +kernel
theorem dX1_addExam_46 : decode cX1_addExam 46 = .ok (.getfield 46, 3) := by decide +kernel
theorem dX1_addExam_49 : decode cX1_addExam 49 = .ok (.iload_n 1, 1) := by decide +kernel
theorem dX1_addExam_50 : decode cX1_addExam 50 = .ok (.iastore, 1) := by decide +kernel
theorem dX1_addExam_51 : decode cX1_addExam 51 = .ok (.aload_n 0, 1) := by decide +kernel
theorem dX1_addExam_52 : decode cX1_addExam 52 = .ok (.getfield 17, 3) := by decide +kernel
theorem dX1_addExam_55 : decode cX1_addExam 55 = .ok (.aload_n 0, 1) := by decide +kernel
theorem dX1_addExam_56 : decode cX1_addExam 56 = .ok (.getfield 46, 3) := by decide +kernel
theorem dX1_addExam_59 : decode cX1_addExam 59 = .ok (.iload_n 2, 1) := by decide +kernel
theorem dX1_addExam_60 : decode cX1_addExam 60 = .ok (.iastore, 1) := by decide +kernel
theorem dX1_addExam_61 : decode cX1_addExam 61 = .ok (.aload_n 0, 1) := by decide +kernel
theorem dX1_addExam_62 : decode cX1_addExam 62 = .ok (.getfield 20, 3) := by decide +kernel
theorem dX1_addExam_65 : decode cX1_addExam 65 = .ok (.aload_n 0, 1) := by decide +kernel
theorem dX1_addExam_66 : decode cX1_addExam 66 = .ok (.getfield 46, 3) := by decide +kernel
theorem dX1_addExam_69 : decode cX1_addExam 69 = .ok (.iconst (-1), 1) := by decide +kernel
theorem dX1_addExam_70 : decode cX1_addExam 70 = .ok (.iastore, 1) := by decide +kernel
theorem dX1_addExam_71 : decode cX1_addExam 71 = .ok (.aload_n 0, 1) := by decide +kernel
theorem dX1_addExam_72 : decode cX1_addExam 72 = .ok (.getfield 23, 3) := by decide +kernel
theorem dX1_addExam_75 : decode cX1_addExam 75 = .ok (.aload_n 0, 1) := by decide +kernel
theorem dX1_addExam_76 : decode cX1_addExam 76 = .ok (.getfield 46, 3) := by decide +kernel
theorem dX1_addExam_79 : decode cX1_addExam 79 = .ok (.lconst 1, 1) := by decide +kernel
theorem dX1_addExam_80 : decode cX1_addExam 80 = .ok (.aload_n 0, 1) := by decide +kernel
theorem dX1_addExam_81 : decode cX1_addExam 81 = .ok (.getfield 46, 3) := by decide +kernel
theorem dX1_addExam_84 : decode cX1_addExam 84 = .ok (.lshl, 1) := by decide +kernel
theorem dX1_addExam_85 : decode cX1_addExam 85 = .ok (.lastore, 1) := by decide +kernel
theorem dX1_addExam_86 : decode cX1_addExam 86 = .ok (.aload_n 0, 1) := by decide +kernel
theorem dX1_addExam_87 : decode cX1_addExam 87 = .ok (.dup, 1) := by decide +kernel
theorem dX1_addExam_88 : decode cX1_addExam 88 = .ok (.getfield 46, 3) := by decide +kernel
theorem dX1_addExam_91 : decode cX1_addExam 91 = .ok (.iconst 1, 1) := by decide +kernel
theorem dX1_addExam_92 : decode cX1_addExam 92 = .ok (.iadd, 1) := by decide +kernel
theorem dX1_addExam_93 : decode cX1_addExam 93 = .ok (.putfield 46, 3) := by decide +kernel
theorem dX1_addExam_96 : decode cX1_addExam 96 = .ok (.aload_n 0, 1) := by decide +kernel
theorem dX1_addExam_97 : decode cX1_addExam 97 = .ok (.getfield 46, 3) := by decide +kernel
theorem dX1_addExam_100 : decode cX1_addExam 100 = .ok (.iconst 1, 1) := by decide +kernel
theorem dX1_addExam_101 : decode cX1_addExam 101 = .ok (.isub, 1) := by decide +kernel
theorem dX1_addExam_102 : decode cX1_addExam 102 = .ok (.ireturn, 1) := by decide +kernel
set_option maxRecDepth 20000 in
theorem ggX1_addFork_X1_isPlace : GoodIn wsX1_addFork wsX1_isPlace := goodIn_r _ [12, 2, 13, 14, 11, 15, 20, 21, 22, 23, 24, 25, 26, 27, 28, 29, 30, 31, 32] (by decide +kernel) (by decide +kernel)
set_option maxRecDepth 20000 in
theorem gX1_addFork_X1_isPlace : GoodIn wsX1_addFork (wsV RX1 53 RX1 yX1_isPlace wsX1_isPlace) := goodIn_app (goodIn_of _ (by decide +kernel)) ggX1_addFork_X1_isPlace
set_option maxRecDepth 20000 in
theorem ggX1_addFork_X1_no : GoodIn wsX1_addFork wsX1_no := goodIn_r _ [19, 1, 20, 21, 22, 23, 24, 25, 26, 27, 28, 29, 30, 31, 32] (by decide +kernel) (by decide +kernel)
set_option maxRecDepth 20000 in
theorem gX1_addFork_X1_no : GoodIn wsX1_addFork (wsV RX1 96 RX1 yX1_no wsX1_no) := goodIn_app (goodIn_of _ (by decide +kernel)) ggX1_addFork_X1_no
set_option maxRecDepth 20000 in
theorem ggX1_addFork_X1_isIn : GoodIn wsX1_addFork wsX1_isIn := goodIn_r _ [15] (by decide +kernel) (by decide +kernel)
set_option maxRecDepth 20000 in
theorem gX1_addFork_X1_isIn : GoodIn wsX1_addFork (va_wsS RX1 49 yX1_isIn wsX1_isIn) := goodIn_app (goodIn_of _ (by decide +kernel)) ggX1_addFork_X1_isIn
theorem dX1_addFork_0 : decode cX1_addFork 0 = .ok (.aload_n 0, 1) := by decide +kernel
theorem dX1_addFork_1 : decode cX1_addFork 1 = .ok (.iconst 0, 1) := by decide +kernel
theorem dX1_addFork_2 : decode cX1_addFork 2 = .ok (.putfield 42, 3) := by decide +kernel
theorem dX1_addFork_5 : decode cX1_addFork 5 = .ok (.aload_n 0, 1) := by decide +kernel
theorem dX1_addFork_6 : decode cX1_addFork 6 = .ok (.iload_n 1, 1) := by decide +kernel
theorem dX1_addFork_7 : decode cX1_addFork 7 = .ok (.invokevirtual 53, 3) := by decide +kernel
theorem dX1_addFork_10 : decode cX1_addFork 10 = .ok (.ifCond .eq 11, 3) := by decide +kernel
theorem dX1_addFork_13 : decode cX1_addFork 13 = .ok (.aload_n 0, 1) := by decide +kernel
theorem dX1_addFork_14 : decode cX1_addFork 14 = .ok (.iload_n 2, 1) := by decide +kernel
theorem dX1_addFork_15 : decode cX1_addFork 15 = .ok (.invokevirtual 53, 3) := by decide +kernel
theorem dX1_addFork_18 : decode cX1_addFork 18 = .ok (.ifCond .ne 9, 3) := by decide +kernel
theorem dX1_addFork_21 : decode cX1_addFork 21 = .ok (.aload_n 0, 1) := by decide +kernel
theorem dX1_addFork_22 : decode cX1_addFork 22 = .ok (.iconst 1, 1) := by decide +kernel
theorem dX1_addFork_23 : decode cX1_addFork 23 = .ok (.invokevirtual 96, 3) := by decide +kernel
theorem dX1_addFork_26 : decode cX1_addFork 26 = .ok (.ireturn, 1) := by decide +kernel
theorem dX1_addFork_27 : decode cX1_addFork 27 = .ok (.iload_n 3, 1) := by decide +kernel
theorem dX1_addFork_28 : decode cX1_addFork 28 = .ok (.iconst 1, 1) := by decide +kernel
theorem dX1_addFork_29 : decode cX1_addFork 29 = .ok (.bipush 9, 2) := by decide +kernel
theorem dX1_addFork_31 : decode cX1_addFork 31 = .ok (.invokestatic 49, 3) := by decide +kernel
theorem dX1_addFork_34 : decode cX1_addFork 34 = .ok (.ifCond .ne 9, 3) := by decide +kernel
theorem dX1_addFork_37 : decode cX1_addFork 37 = .ok (.aload_n 0, 1) := by decide +kernel
theorem dX1_addFork_38 : decode cX1_addFork 38 = .ok (.iconst 2, 1) := by decide +kernel
theorem dX1_addFork_39 : decode cX1_addFork 39 = .ok (.invokevirtual 96, 3) := by decide +kernel
theorem dX1_addFork_42 : decode cX1_addFork 42 = .ok (.ireturn, 1) := by decide +kernel
theorem dX1_addFork_43 : decode cX1_addFork 43 = .ok (.aload_n 0, 1) := by decide +kernel
theorem dX1_addFork_44 : decode cX1_addFork 44 = .ok (.getfield 46, 3) := by decide +kernel
theorem dX1_addFork_47 : decode cX1_addFork 47 = .ok (.bipush 40, 2) := by decide +kernel
theorem dX1_addFork_49 : decode cX1_addFork 49 = .ok (.if_icmp .ne 9, 3) := by decide +kernel
theorem dX1_addFork_52 : decode cX1_addFork 52 = .ok (.aload_n 0, 1) := by decide +kernel
theorem dX1_addFork_53 : decode cX1_addFork 53 = .ok (.iconst 3, 1) := by decide +kernel
theorem dX1_addFork_54 : decode cX1_addFork 54 = .ok (.invokevirtual 96, 3) := by decide +kernel
theorem dX1_addFork_57 : decode cX1_addFork 57 = .ok (.ireturn, 1) := by decide +kernel
theorem dX1_addFork_58 : decode cX1_addFork 58 = .ok (.aload_n 0, 1) := by decide +kernel
theorem dX1_addFork_59 : decode cX1_addFork 59 = .ok (.getfield 9, 3) := by decide +kernel
theorem dX1_addFork_62 : decode cX1_addFork 62 = .ok (.aload_n 0, 1) := by decide +kernel
theorem dX1_addFork_63 : decode cX1_addFork 63 = .ok (.getfield 46, 3) := by decide +kernel
theorem dX1_addFork_66 : decode cX1_addFork 66 = .ok (.iconst 1, 1) := by decide +kernel
theorem dX1_addFork_67 : decode cX1_addFork 67 = .ok (.bastore, 1) := by decide +kernel
theorem dX1_addFork_68 : decode cX1_addFork 68 = .ok (.aload_n 0, 1) := by decide +kernel
theorem dX1_addFork_69 : decode cX1_addFork 69 = .ok (.getfield 13, 3) := by decide +kernel
theorem dX1_addFork_72 : decode cX1_addFork 72 = .ok (.aload_n 0, 1) := by decide +kernel
theorem dX1_addFork_73 : decode cX1_addFork 73 = .ok (.getfield 46, 3) := by decide +kernel
theorem dX1_addFork_76 : decode cX1_addFork 76 = .ok (.iload_n 1, 1) := by decide +kernel
theorem dX1_addFork_77 : decode cX1_addFork 77 = .ok (.iastore, 1) := by decide +kernel
theorem dX1_addFork_78 : decode cX1_addFork 78 = .ok (.aload_n 0, 1) := by decide +kernel
theorem dX1_addFork_79 : decode cX1_addFork 79 = .ok (.getfield 17, 3) := by decide +kernel
theorem dX1_addFork_82 : decode cX1_addFork 82 = .ok (.aload_n 0, 1) := by decide +kernel
theorem dX1_addFork_83 : decode cX1_addFork 83 = .ok (.getfield 46, 3) := by decide +kernel
theorem dX1_addFork_86 : decode cX1_addFork 86 = .ok (.iload_n 2, 1) := by decide +kernel
theorem dX1_addFork_87 : decode cX1_addFork 87 = .ok (.iastore, 1) := by decide +kernel
theorem dX1_addFork_88 : decode cX1_addFork 88 = .ok (.aload_n 0, 1) := by decide +kernel
theorem dX1_addFork_89 : decode cX1_addFork 89 = .ok (.getfield 20, 3) := by decide +kernel
theorem dX1_addFork_92 : decode cX1_addFork 92 = .ok (.aload_n 0, 1) := by decide +kernel
theorem dX1_addFork_93 : decode cX1_addFork 93 = .ok (.getfield 46, 3) := by decide +kernel
theorem dX1_addFork_96 : decode cX1_addFork 96 = .ok (.iload_n 3, 1) := by decide +kernel
theorem dX1_addFork_97 : decode cX1_addFork 97 = .ok (.iastore, 1) := by decide +kernel
theorem dX1_addFork_98 : decode cX1_addFork 98 = .ok (.aload_n 0, 1) := by decide +kernel
theorem dX1_addFork_99 : decode cX1_addFork 99 = .ok (.getfield 23, 3) := by decide +kernel
theorem dX1_addFork_102 : decode cX1_addFork 102 = .ok (.aload_n 0, 1) := by decide +kernel
theorem dX1_addFork_103 : decode cX1_addFork 103 = .ok (.getfield 46, 3) := by decide +kernel
theorem dX1_addFork_106 : decode cX1_addFork 106 = .ok (.aload_n 0, 1) := by decide +kernel
theorem dX1_addFork_107 : decode cX1_addFork 107 = .ok (.getfield 23, 3) := by decide +kernel
theorem dX1_addFork_110 : decode cX1_addFork 110 = .ok (.iload_n 1, 1) := by decide +kernel
theorem dX1_addFork_111 : decode cX1_addFork 111 = .ok (.laload, 1) := by decide +kernel
theorem dX1_addFork_112 : decode cX1_addFork 112 = .ok (.aload_n 0, 1) := by decide +kernel
theorem dX1_addFork_113 : decode cX1_addFork 113 = .ok (.getfield 23, 3) := by decide +kernel
theorem dX1_addFork_116 : decode cX1_addFork 116 = .ok (.iload_n 2, 1) := by decide +kernel
theorem dX1_addFork_117 : decode cX1_addFork 117 = .ok (.laload, 1) := by decide +kernel
theorem dX1_addFork_118 : decode cX1_addFork 118 = .ok (.lor, 1) := by decide +kernel
theorem dX1_addFork_119 : decode cX1_addFork 119 = .ok (.lconst 1, 1) := by decide +kernel
theorem dX1_addFork_120 : decode cX1_addFork 120 = .ok (.aload_n 0, 1) := by decide +kernel
theorem dX1_addFork_121 : decode cX1_addFork 121 = .ok (.getfield 46, 3) := by decide +kernel
theorem dX1_addFork_124 : decode cX1_addFork 124 = .ok (.lshl, 1) := by decide +kernel
theorem dX1_addFork_125 : decode cX1_addFork 125 = .ok (.lor, 1) := by decide +kernel
theorem dX1_addFork_126 : decode cX1_addFork 126 = .ok (.lastore, 1) := by decide +kernel
theorem dX1_addFork_127 : decode cX1_addFork 127 = .ok (.aload_n 0, 1) := by decide +kernel
theorem dX1_addFork_128 : decode cX1_addFork 128 = .ok (.dup, 1) := by decide +kernel
theorem dX1_addFork_129 : decode cX1_addFork 129 = .ok (.getfield 46, 3) := by decide +kernel
theorem dX1_addFork_132 : decode cX1_addFork 132 = .ok (.iconst 1, 1) := by decide +kernel
theorem dX1_addFork_133 : decode cX1_addFork 133 = .ok (.iadd, 1) := by decide +kernel
theorem dX1_addFork_134 : decode cX1_addFork 134 = .ok (.putfield 46, 3) := by decide +kernel
theorem dX1_addFork_137 : decode cX1_addFork 137 = .ok (.aload_n 0, 1) := by decide +kernel
theorem dX1_addFork_138 : decode cX1_addFork 138 = .ok (.getfield 46, 3) := by decide +kernel
theorem dX1_addFork_141 : decode cX1_addFork 141 = .ok (.iconst 1, 1) := by decide +kernel
theorem dX1_addFork_142 : decode cX1_addFork 142 = .ok (.isub, 1) := by decide +kernel
theorem dX1_addFork_143 : decode cX1_addFork 143 = .ok (.ireturn, 1) := by decide +kernel
theorem dX1_gradedNow_0 : decode cX1_gradedNow 0 = .ok (.iconst 0, 1) := by decide +kernel
theorem dX1_gradedNow_1 : decode cX1_gradedNow 1 = .ok (.istore_n 1, 1) := by decide +kernel
theorem dX1_gradedNow_2 : decode cX1_gradedNow 2 = .ok (.iconst 0, 1) := by decide +kernel
theorem dX1_gradedNow_3 : decode cX1_gradedNow 3 = .ok (.istore_n 2, 1) := by decide +kernel
theorem dX1_gradedNow_4 : decode cX1_gradedNow 4 = .ok (.iload_n 2, 1) := by decide +kernel
theorem dX1_gradedNow_5 : decode cX1_gradedNow 5 = .ok (.aload_n 0, 1) := by decide +kernel
theorem dX1_gradedNow_6 : decode cX1_gradedNow 6 = .ok (.getfield 46, 3) := by decide +kernel
theorem dX1_gradedNow_9 : decode cX1_gradedNow 9 = .ok (.if_icmp .ge 36, 3) := by decide +kernel
theorem dX1_gradedNow_12 : decode cX1_gradedNow 12 = .ok (.iload_n 1, 1) := by decide +kernel
theorem dX1_gradedNow_13 : decode cX1_gradedNow 13 = .ok (.aload_n 0, 1) := by decide +kernel
theorem dX1_gradedNow_14 : decode cX1_gradedNow 14 = .ok (.getfield 9, 3) := by decide +kernel
theorem dX1_gradedNow_17 : decode cX1_gradedNow 17 = .ok (.iload_n 2, 1) := by decide +kernel
theorem dX1_gradedNow_18 : decode cX1_gradedNow 18 = .ok (.baload, 1) := by decide +kernel
theorem dX1_gradedNow_19 : decode cX1_gradedNow 19 = .ok (.ifCond .ne 17, 3) := by decide +kernel
theorem dX1_gradedNow_22 : decode cX1_gradedNow 22 = .ok (.aload_n 0, 1) := by decide +kernel
theorem dX1_gradedNow_23 : decode cX1_gradedNow 23 = .ok (.getfield 20, 3) := by decide +kernel
theorem dX1_gradedNow_26 : decode cX1_gradedNow 26 = .ok (.iload_n 2, 1) := by decide +kernel
theorem dX1_gradedNow_27 : decode cX1_gradedNow 27 = .ok (.iaload, 1) := by decide +kernel
theorem dX1_gradedNow_28 : decode cX1_gradedNow 28 = .ok (.iconst (-1), 1) := by decide +kernel
theorem dX1_gradedNow_29 : decode cX1_gradedNow 29 = .ok (.if_icmp .eq 7, 3) := by decide +kernel
theorem dX1_gradedNow_32 : decode cX1_gradedNow 32 = .ok (.iconst 1, 1) := by decide +kernel
theorem dX1_gradedNow_33 : decode cX1_gradedNow 33 = .ok (.goto 4, 3) := by decide +kernel
theorem dX1_gradedNow_36 : decode cX1_gradedNow 36 = .ok (.iconst 0, 1) := by decide +kernel
theorem dX1_gradedNow_37 : decode cX1_gradedNow 37 = .ok (.iadd, 1) := by decide +kernel
theorem dX1_gradedNow_38 : decode cX1_gradedNow 38 = .ok (.istore_n 1, 1) := by decide +kernel
theorem dX1_gradedNow_39 : decode cX1_gradedNow 39 = .ok (.iinc 2 1, 3) := by decide +kernel
theorem dX1_gradedNow_42 : decode cX1_gradedNow 42 = .ok (.goto (-38), 3) := by decide +kernel
theorem dX1_gradedNow_45 : decode cX1_gradedNow 45 = .ok (.iload_n 1, 1) := by decide +kernel
theorem dX1_gradedNow_46 : decode cX1_gradedNow 46 = .ok (.ireturn, 1) := by decide +kernel
set_option maxRecDepth 20000 in
theorem ggX1_grade_X1_isExamAt : GoodIn wsX1_grade wsX1_isExamAt := goodIn_r _ [9, 10, 11, 12, 13, 8, 14, 15, 16, 17, 18, 27, 28, 29, 30, 31, 32, 33, 34, 35, 36, 37, 38, 39] (by decide +kernel) (by decide +kernel)
set_option maxRecDepth 20000 in
theorem gX1_grade_X1_isExamAt : GoodIn wsX1_grade (wsV RX1 99 RX1 yX1_isExamAt wsX1_isExamAt) := goodIn_app (goodIn_of _ (by decide +kernel)) ggX1_grade_X1_isExamAt
set_option maxRecDepth 20000 in
theorem ggX1_grade_X1_no : GoodIn wsX1_grade wsX1_no := goodIn_r _ [22, 1, 27, 28, 29, 30, 31, 32, 33, 34, 35, 36, 37, 38, 39] (by decide +kernel) (by decide +kernel)
set_option maxRecDepth 20000 in
theorem gX1_grade_X1_no : GoodIn wsX1_grade (wsV RX1 96 RX1 yX1_no wsX1_no) := goodIn_app (goodIn_of _ (by decide +kernel)) ggX1_grade_X1_no
set_option maxRecDepth 20000 in
theorem ggX1_grade_X1_isIn : GoodIn wsX1_grade wsX1_isIn := goodIn_r _ [18] (by decide +kernel) (by decide +kernel)
set_option maxRecDepth 20000 in
theorem gX1_grade_X1_isIn : GoodIn wsX1_grade (va_wsS RX1 49 yX1_isIn wsX1_isIn) := goodIn_app (goodIn_of _ (by decide +kernel)) ggX1_grade_X1_isIn
set_option maxRecDepth 20000 in
theorem ggX1_grade_X1_gradedNow : GoodIn wsX1_grade wsX1_gradedNow := goodIn_r _ [26, 15, 10, 4, 27, 28, 29, 30, 31, 32, 33, 34, 35, 36, 37, 38, 39] (by decide +kernel) (by decide +kernel)
set_option maxRecDepth 20000 in
theorem gX1_grade_X1_gradedNow : GoodIn wsX1_grade (wsV RX1 102 RX1 yX1_gradedNow wsX1_gradedNow) := goodIn_app (goodIn_of _ (by decide +kernel)) ggX1_grade_X1_gradedNow
theorem dX1_grade_0 : decode cX1_grade 0 = .ok (.aload_n 0, 1) := by decide +kernel
theorem dX1_grade_1 : decode cX1_grade 1 = .ok (.iconst 0, 1) := by decide +kernel
theorem dX1_grade_2 : decode cX1_grade 2 = .ok (.putfield 42, 3) := by decide +kernel
theorem dX1_grade_5 : decode cX1_grade 5 = .ok (.aload_n 0, 1) := by decide +kernel
theorem dX1_grade_6 : decode cX1_grade 6 = .ok (.iload_n 1, 1) := by decide +kernel
theorem dX1_grade_7 : decode cX1_grade 7 = .ok (.invokevirtual 99, 3) := by decide +kernel
theorem dX1_grade_10 : decode cX1_grade 10 = .ok (.ifCond .ne 9, 3) := by decide +kernel
theorem dX1_grade_13 : decode cX1_grade 13 = .ok (.aload_n 0, 1) := by decide +kernel
theorem dX1_grade_14 : decode cX1_grade 14 = .ok (.iconst 1, 1) := by decide +kernel
theorem dX1_grade_15 : decode cX1_grade 15 = .ok (.invokevirtual 96, 3) := by decide +kernel
theorem dX1_grade_18 : decode cX1_grade 18 = .ok (.ireturn, 1) := by decide +kernel
theorem dX1_grade_19 : decode cX1_grade 19 = .ok (.iload_n 2, 1) := by decide +kernel
theorem dX1_grade_20 : decode cX1_grade 20 = .ok (.aload_n 0, 1) := by decide +kernel
theorem dX1_grade_21 : decode cX1_grade 21 = .ok (.getfield 13, 3) := by decide +kernel
theorem dX1_grade_24 : decode cX1_grade 24 = .ok (.iload_n 1, 1) := by decide +kernel
theorem dX1_grade_25 : decode cX1_grade 25 = .ok (.iaload, 1) := by decide +kernel
theorem dX1_grade_26 : decode cX1_grade 26 = .ok (.aload_n 0, 1) := by decide +kernel
theorem dX1_grade_27 : decode cX1_grade 27 = .ok (.getfield 17, 3) := by decide +kernel
theorem dX1_grade_30 : decode cX1_grade 30 = .ok (.iload_n 1, 1) := by decide +kernel
theorem dX1_grade_31 : decode cX1_grade 31 = .ok (.iaload, 1) := by decide +kernel
theorem dX1_grade_32 : decode cX1_grade 32 = .ok (.invokestatic 49, 3) := by decide +kernel
theorem dX1_grade_35 : decode cX1_grade 35 = .ok (.ifCond .ne 9, 3) := by decide +kernel
theorem dX1_grade_38 : decode cX1_grade 38 = .ok (.aload_n 0, 1) := by decide +kernel
theorem dX1_grade_39 : decode cX1_grade 39 = .ok (.iconst 2, 1) := by decide +kernel
theorem dX1_grade_40 : decode cX1_grade 40 = .ok (.invokevirtual 96, 3) := by decide +kernel
theorem dX1_grade_43 : decode cX1_grade 43 = .ok (.ireturn, 1) := by decide +kernel
theorem dX1_grade_44 : decode cX1_grade 44 = .ok (.aload_n 0, 1) := by decide +kernel
theorem dX1_grade_45 : decode cX1_grade 45 = .ok (.getfield 20, 3) := by decide +kernel
theorem dX1_grade_48 : decode cX1_grade 48 = .ok (.iload_n 1, 1) := by decide +kernel
theorem dX1_grade_49 : decode cX1_grade 49 = .ok (.iaload, 1) := by decide +kernel
theorem dX1_grade_50 : decode cX1_grade 50 = .ok (.iconst (-1), 1) := by decide +kernel
theorem dX1_grade_51 : decode cX1_grade 51 = .ok (.if_icmp .eq 9, 3) := by decide +kernel
theorem dX1_grade_54 : decode cX1_grade 54 = .ok (.aload_n 0, 1) := by decide +kernel
theorem dX1_grade_55 : decode cX1_grade 55 = .ok (.iconst 3, 1) := by decide +kernel
theorem dX1_grade_56 : decode cX1_grade 56 = .ok (.invokevirtual 96, 3) := by decide +kernel
theorem dX1_grade_59 : decode cX1_grade 59 = .ok (.ireturn, 1) := by decide +kernel
theorem dX1_grade_60 : decode cX1_grade 60 = .ok (.aload_n 0, 1) := by decide +kernel
theorem dX1_grade_61 : decode cX1_grade 61 = .ok (.getfield 20, 3) := by decide +kernel
theorem dX1_grade_64 : decode cX1_grade 64 = .ok (.iload_n 1, 1) := by decide +kernel
theorem dX1_grade_65 : decode cX1_grade 65 = .ok (.iload_n 2, 1) := by decide +kernel
theorem dX1_grade_66 : decode cX1_grade 66 = .ok (.iastore, 1) := by decide +kernel
theorem dX1_grade_67 : decode cX1_grade 67 = .ok (.aload_n 0, 1) := by decide +kernel
theorem dX1_grade_68 : decode cX1_grade 68 = .ok (.invokevirtual 102, 3) := by decide +kernel
theorem dX1_grade_71 : decode cX1_grade 71 = .ok (.ireturn, 1) := by decide +kernel
set_option maxRecDepth 20000 in
theorem ggX1_weigh_X1_isForkAt : GoodIn wsX1_weigh wsX1_isForkAt := goodIn_r _ [7, 8, 9, 10, 11, 6, 12, 13, 14, 15, 16, 21, 22, 23, 24, 25, 26, 27, 28, 29, 30, 31, 32, 33] (by decide +kernel) (by decide +kernel)
set_option maxRecDepth 20000 in
theorem gX1_weigh_X1_isForkAt : GoodIn wsX1_weigh (wsV RX1 106 RX1 yX1_isForkAt wsX1_isForkAt) := goodIn_app (goodIn_of _ (by decide +kernel)) ggX1_weigh_X1_isForkAt
set_option maxRecDepth 20000 in
theorem ggX1_weigh_X1_no : GoodIn wsX1_weigh wsX1_no := goodIn_r _ [20, 1, 21, 22, 23, 24, 25, 26, 27, 28, 29, 30, 31, 32, 33] (by decide +kernel) (by decide +kernel)
set_option maxRecDepth 20000 in
theorem gX1_weigh_X1_no : GoodIn wsX1_weigh (wsV RX1 96 RX1 yX1_no wsX1_no) := goodIn_app (goodIn_of _ (by decide +kernel)) ggX1_weigh_X1_no
set_option maxRecDepth 20000 in
theorem ggX1_weigh_X1_isIn : GoodIn wsX1_weigh wsX1_isIn := goodIn_r _ [16] (by decide +kernel) (by decide +kernel)
set_option maxRecDepth 20000 in
theorem gX1_weigh_X1_isIn : GoodIn wsX1_weigh (va_wsS RX1 49 yX1_isIn wsX1_isIn) := goodIn_app (goodIn_of _ (by decide +kernel)) ggX1_weigh_X1_isIn
theorem dX1_weigh_0 : decode cX1_weigh 0 = .ok (.aload_n 0, 1) := by decide +kernel
theorem dX1_weigh_1 : decode cX1_weigh 1 = .ok (.iconst 0, 1) := by decide +kernel
theorem dX1_weigh_2 : decode cX1_weigh 2 = .ok (.putfield 42, 3) := by decide +kernel
theorem dX1_weigh_5 : decode cX1_weigh 5 = .ok (.aload_n 0, 1) := by decide +kernel
theorem dX1_weigh_6 : decode cX1_weigh 6 = .ok (.iload_n 1, 1) := by decide +kernel
theorem dX1_weigh_7 : decode cX1_weigh 7 = .ok (.invokevirtual 106, 3) := by decide +kernel
theorem dX1_weigh_10 : decode cX1_weigh 10 = .ok (.ifCond .ne 9, 3) := by decide +kernel
theorem dX1_weigh_13 : decode cX1_weigh 13 = .ok (.aload_n 0, 1) := by decide +kernel
theorem dX1_weigh_14 : decode cX1_weigh 14 = .ok (.iconst 1, 1) := by decide +kernel
theorem dX1_weigh_15 : decode cX1_weigh 15 = .ok (.invokevirtual 96, 3) := by decide +kernel
theorem dX1_weigh_18 : decode cX1_weigh 18 = .ok (.ireturn, 1) := by decide +kernel
theorem dX1_weigh_19 : decode cX1_weigh 19 = .ok (.iload_n 2, 1) := by decide +kernel
theorem dX1_weigh_20 : decode cX1_weigh 20 = .ok (.iconst 1, 1) := by decide +kernel
theorem dX1_weigh_21 : decode cX1_weigh 21 = .ok (.bipush 9, 2) := by decide +kernel
theorem dX1_weigh_23 : decode cX1_weigh 23 = .ok (.invokestatic 49, 3) := by decide +kernel
theorem dX1_weigh_26 : decode cX1_weigh 26 = .ok (.ifCond .ne 9, 3) := by decide +kernel
theorem dX1_weigh_29 : decode cX1_weigh 29 = .ok (.aload_n 0, 1) := by decide +kernel
theorem dX1_weigh_30 : decode cX1_weigh 30 = .ok (.iconst 2, 1) := by decide +kernel
theorem dX1_weigh_31 : decode cX1_weigh 31 = .ok (.invokevirtual 96, 3) := by decide +kernel
theorem dX1_weigh_34 : decode cX1_weigh 34 = .ok (.ireturn, 1) := by decide +kernel
theorem dX1_weigh_35 : decode cX1_weigh 35 = .ok (.aload_n 0, 1) := by decide +kernel
theorem dX1_weigh_36 : decode cX1_weigh 36 = .ok (.getfield 20, 3) := by decide +kernel
theorem dX1_weigh_39 : decode cX1_weigh 39 = .ok (.iload_n 1, 1) := by decide +kernel
theorem dX1_weigh_40 : decode cX1_weigh 40 = .ok (.iaload, 1) := by decide +kernel
theorem dX1_weigh_41 : decode cX1_weigh 41 = .ok (.istore_n 3, 1) := by decide +kernel
theorem dX1_weigh_42 : decode cX1_weigh 42 = .ok (.aload_n 0, 1) := by decide +kernel
theorem dX1_weigh_43 : decode cX1_weigh 43 = .ok (.getfield 20, 3) := by decide +kernel
theorem dX1_weigh_46 : decode cX1_weigh 46 = .ok (.iload_n 1, 1) := by decide +kernel
theorem dX1_weigh_47 : decode cX1_weigh 47 = .ok (.iload_n 2, 1) := by decide +kernel
theorem dX1_weigh_48 : decode cX1_weigh 48 = .ok (.iastore, 1) := by decide +kernel
theorem dX1_weigh_49 : decode cX1_weigh 49 = .ok (.iload_n 3, 1) := by decide +kernel
theorem dX1_weigh_50 : decode cX1_weigh 50 = .ok (.ireturn, 1) := by decide +kernel
set_option maxRecDepth 20000 in
theorem ggX1_enroll_X1_isPlace : GoodIn wsX1_enroll wsX1_isPlace := goodIn_r _ [8, 9, 10, 11, 7, 12, 17, 18, 19, 20, 21, 22, 23, 24, 25, 26, 27, 28, 29] (by decide +kernel) (by decide +kernel)
set_option maxRecDepth 20000 in
theorem gX1_enroll_X1_isPlace : GoodIn wsX1_enroll (wsV RX1 53 RX1 yX1_isPlace wsX1_isPlace) := goodIn_app (goodIn_of _ (by decide +kernel)) ggX1_enroll_X1_isPlace
set_option maxRecDepth 20000 in
theorem ggX1_enroll_X1_no : GoodIn wsX1_enroll wsX1_no := goodIn_r _ [16, 1, 17, 18, 19, 20, 21, 22, 23, 24, 25, 26, 27, 28, 29] (by decide +kernel) (by decide +kernel)
set_option maxRecDepth 20000 in
theorem gX1_enroll_X1_no : GoodIn wsX1_enroll (wsV RX1 96 RX1 yX1_no wsX1_no) := goodIn_app (goodIn_of _ (by decide +kernel)) ggX1_enroll_X1_no
theorem dX1_enroll_0 : decode cX1_enroll 0 = .ok (.aload_n 0, 1) := by decide +kernel
theorem dX1_enroll_1 : decode cX1_enroll 1 = .ok (.iconst 0, 1) := by decide +kernel
theorem dX1_enroll_2 : decode cX1_enroll 2 = .ok (.putfield 42, 3) := by decide +kernel
theorem dX1_enroll_5 : decode cX1_enroll 5 = .ok (.aload_n 0, 1) := by decide +kernel
theorem dX1_enroll_6 : decode cX1_enroll 6 = .ok (.iload_n 1, 1) := by decide +kernel
theorem dX1_enroll_7 : decode cX1_enroll 7 = .ok (.invokevirtual 53, 3) := by decide +kernel
theorem dX1_enroll_10 : decode cX1_enroll 10 = .ok (.ifCond .ne 9, 3) := by decide +kernel
theorem dX1_enroll_13 : decode cX1_enroll 13 = .ok (.aload_n 0, 1) := by decide +kernel
theorem dX1_enroll_14 : decode cX1_enroll 14 = .ok (.iconst 1, 1) := by decide +kernel
theorem dX1_enroll_15 : decode cX1_enroll 15 = .ok (.invokevirtual 96, 3) := by decide +kernel
theorem dX1_enroll_18 : decode cX1_enroll 18 = .ok (.ireturn, 1) := by decide +kernel
theorem dX1_enroll_19 : decode cX1_enroll 19 = .ok (.aload_n 0, 1) := by decide +kernel
theorem dX1_enroll_20 : decode cX1_enroll 20 = .ok (.getfield 57, 3) := by decide +kernel
theorem dX1_enroll_23 : decode cX1_enroll 23 = .ok (.bipush 8, 2) := by decide +kernel
theorem dX1_enroll_25 : decode cX1_enroll 25 = .ok (.if_icmp .ne 9, 3) := by decide +kernel
theorem dX1_enroll_28 : decode cX1_enroll 28 = .ok (.aload_n 0, 1) := by decide +kernel
theorem dX1_enroll_29 : decode cX1_enroll 29 = .ok (.iconst 2, 1) := by decide +kernel
theorem dX1_enroll_30 : decode cX1_enroll 30 = .ok (.invokevirtual 96, 3) := by decide +kernel
theorem dX1_enroll_33 : decode cX1_enroll 33 = .ok (.ireturn, 1) := by decide +kernel
theorem dX1_enroll_34 : decode cX1_enroll 34 = .ok (.aload_n 0, 1) := by decide +kernel
theorem dX1_enroll_35 : decode cX1_enroll 35 = .ok (.getfield 33, 3) := by decide +kernel
theorem dX1_enroll_38 : decode cX1_enroll 38 = .ok (.aload_n 0, 1) := by decide +kernel
theorem dX1_enroll_39 : decode cX1_enroll 39 = .ok (.getfield 57, 3) := by decide +kernel
theorem dX1_enroll_42 : decode cX1_enroll 42 = .ok (.iload_n 1, 1) := by decide +kernel
theorem dX1_enroll_43 : decode cX1_enroll 43 = .ok (.iastore, 1) := by decide +kernel
theorem dX1_enroll_44 : decode cX1_enroll 44 = .ok (.aload_n 0, 1) := by decide +kernel
theorem dX1_enroll_45 : decode cX1_enroll 45 = .ok (.dup, 1) := by decide +kernel
theorem dX1_enroll_46 : decode cX1_enroll 46 = .ok (.getfield 57, 3) := by decide +kernel
theorem dX1_enroll_49 : decode cX1_enroll 49 = .ok (.iconst 1, 1) := by decide +kernel
theorem dX1_enroll_50 : decode cX1_enroll 50 = .ok (.iadd, 1) := by decide +kernel
theorem dX1_enroll_51 : decode cX1_enroll 51 = .ok (.putfield 57, 3) := by decide +kernel
theorem dX1_enroll_54 : decode cX1_enroll 54 = .ok (.aload_n 0, 1) := by decide +kernel
theorem dX1_enroll_55 : decode cX1_enroll 55 = .ok (.getfield 57, 3) := by decide +kernel
theorem dX1_enroll_58 : decode cX1_enroll 58 = .ok (.iconst 1, 1) := by decide +kernel
theorem dX1_enroll_59 : decode cX1_enroll 59 = .ok (.isub, 1) := by decide +kernel
theorem dX1_enroll_60 : decode cX1_enroll 60 = .ok (.ireturn, 1) := by decide +kernel
theorem dX1_go_0 : decode cX1_go 0 = .ok (.aload_n 0, 1) := by decide +kernel
theorem dX1_go_1 : decode cX1_go 1 = .ok (.getfield 39, 3) := by decide +kernel
theorem dX1_go_4 : decode cX1_go 4 = .ok (.bipush 40, 2) := by decide +kernel
theorem dX1_go_6 : decode cX1_go 6 = .ok (.iload_n 1, 1) := by decide +kernel
theorem dX1_go_7 : decode cX1_go 7 = .ok (.imul, 1) := by decide +kernel
theorem dX1_go_8 : decode cX1_go 8 = .ok (.aload_n 0, 1) := by decide +kernel
theorem dX1_go_9 : decode cX1_go 9 = .ok (.getfield 36, 3) := by decide +kernel
theorem dX1_go_12 : decode cX1_go 12 = .ok (.iload_n 1, 1) := by decide +kernel
theorem dX1_go_13 : decode cX1_go 13 = .ok (.iaload, 1) := by decide +kernel
theorem dX1_go_14 : decode cX1_go 14 = .ok (.iadd, 1) := by decide +kernel
theorem dX1_go_15 : decode cX1_go 15 = .ok (.aload_n 0, 1) := by decide +kernel
theorem dX1_go_16 : decode cX1_go 16 = .ok (.getfield 33, 3) := by decide +kernel
theorem dX1_go_19 : decode cX1_go 19 = .ok (.iload_n 1, 1) := by decide +kernel
theorem dX1_go_20 : decode cX1_go 20 = .ok (.iaload, 1) := by decide +kernel
theorem dX1_go_21 : decode cX1_go 21 = .ok (.iastore, 1) := by decide +kernel
theorem dX1_go_22 : decode cX1_go 22 = .ok (.aload_n 0, 1) := by decide +kernel
theorem dX1_go_23 : decode cX1_go 23 = .ok (.getfield 36, 3) := by decide +kernel
theorem dX1_go_26 : decode cX1_go 26 = .ok (.iload_n 1, 1) := by decide +kernel
theorem dX1_go_27 : decode cX1_go 27 = .ok (.dup2, 1) := by decide +kernel
theorem dX1_go_28 : decode cX1_go 28 = .ok (.iaload, 1) := by decide +kernel
theorem dX1_go_29 : decode cX1_go 29 = .ok (.iconst 1, 1) := by decide +kernel
theorem dX1_go_30 : decode cX1_go 30 = .ok (.iadd, 1) := by decide +kernel
theorem dX1_go_31 : decode cX1_go 31 = .ok (.iastore, 1) := by decide +kernel
theorem dX1_go_32 : decode cX1_go 32 = .ok (.aload_n 0, 1) := by decide +kernel
theorem dX1_go_33 : decode cX1_go 33 = .ok (.getfield 33, 3) := by decide +kernel
theorem dX1_go_36 : decode cX1_go 36 = .ok (.iload_n 1, 1) := by decide +kernel
theorem dX1_go_37 : decode cX1_go 37 = .ok (.iload_n 2, 1) := by decide +kernel
theorem dX1_go_38 : decode cX1_go 38 = .ok (.iastore, 1) := by decide +kernel
theorem dX1_go_39 : decode cX1_go 39 = .ok (.return_, 1) := by decide +kernel
set_option maxRecDepth 20000 in
theorem ggX1_turn_X1_isStudent : GoodIn wsX1_turn wsX1_isStudent := goodIn_r _ [10, 11, 12, 13, 9, 14, 25, 26, 27, 28, 29, 30, 31, 32, 33, 34, 35, 36, 37] (by decide +kernel) (by decide +kernel)
set_option maxRecDepth 20000 in
theorem gX1_turn_X1_isStudent : GoodIn wsX1_turn (wsV RX1 109 RX1 yX1_isStudent wsX1_isStudent) := goodIn_app (goodIn_of _ (by decide +kernel)) ggX1_turn_X1_isStudent
set_option maxRecDepth 20000 in
theorem ggX1_turn_X1_no : GoodIn wsX1_turn wsX1_no := goodIn_r _ [18, 1, 25, 26, 27, 28, 29, 30, 31, 32, 33, 34, 35, 36, 37] (by decide +kernel) (by decide +kernel)
set_option maxRecDepth 20000 in
theorem gX1_turn_X1_no : GoodIn wsX1_turn (wsV RX1 96 RX1 yX1_no wsX1_no) := goodIn_app (goodIn_of _ (by decide +kernel)) ggX1_turn_X1_no
set_option maxRecDepth 20000 in
theorem ggX1_turn_X1_go : GoodIn wsX1_turn wsX1_go := goodIn_r _ [22, 23, 24, 2, 25, 26, 27, 28, 29, 30, 31, 32, 33, 34, 35, 36, 37] (by decide +kernel) (by decide +kernel)
set_option maxRecDepth 20000 in
theorem gX1_turn_X1_go : GoodIn wsX1_turn (wsV RX1 112 RX1 yX1_go wsX1_go) := goodIn_app (goodIn_of _ (by decide +kernel)) ggX1_turn_X1_go
theorem dX1_turn_0 : decode cX1_turn 0 = .ok (.aload_n 0, 1) := by decide +kernel
theorem dX1_turn_1 : decode cX1_turn 1 = .ok (.iconst 0, 1) := by decide +kernel
theorem dX1_turn_2 : decode cX1_turn 2 = .ok (.putfield 42, 3) := by decide +kernel
theorem dX1_turn_5 : decode cX1_turn 5 = .ok (.aload_n 0, 1) := by decide +kernel
theorem dX1_turn_6 : decode cX1_turn 6 = .ok (.iload_n 1, 1) := by decide +kernel
theorem dX1_turn_7 : decode cX1_turn 7 = .ok (.invokevirtual 109, 3) := by decide +kernel
theorem dX1_turn_10 : decode cX1_turn 10 = .ok (.ifCond .ne 9, 3) := by decide +kernel
theorem dX1_turn_13 : decode cX1_turn 13 = .ok (.aload_n 0, 1) := by decide +kernel
theorem dX1_turn_14 : decode cX1_turn 14 = .ok (.iconst 1, 1) := by decide +kernel
theorem dX1_turn_15 : decode cX1_turn 15 = .ok (.invokevirtual 96, 3) := by decide +kernel
theorem dX1_turn_18 : decode cX1_turn 18 = .ok (.ireturn, 1) := by decide +kernel
theorem dX1_turn_19 : decode cX1_turn 19 = .ok (.aload_n 0, 1) := by decide +kernel
theorem dX1_turn_20 : decode cX1_turn 20 = .ok (.getfield 33, 3) := by decide +kernel
theorem dX1_turn_23 : decode cX1_turn 23 = .ok (.iload_n 1, 1) := by decide +kernel
theorem dX1_turn_24 : decode cX1_turn 24 = .ok (.iaload, 1) := by decide +kernel
theorem dX1_turn_25 : decode cX1_turn 25 = .ok (.istore_n 3, 1) := by decide +kernel
theorem dX1_turn_26 : decode cX1_turn 26 = .ok (.aload_n 0, 1) := by decide +kernel
theorem dX1_turn_27 : decode cX1_turn 27 = .ok (.getfield 9, 3) := by decide +kernel
theorem dX1_turn_30 : decode cX1_turn 30 = .ok (.iload_n 3, 1) := by decide +kernel
theorem dX1_turn_31 : decode cX1_turn 31 = .ok (.baload, 1) := by decide +kernel
theorem dX1_turn_32 : decode cX1_turn 32 = .ok (.ifCond .ne 9, 3) := by decide +kernel
theorem dX1_turn_35 : decode cX1_turn 35 = .ok (.aload_n 0, 1) := by decide +kernel
theorem dX1_turn_36 : decode cX1_turn 36 = .ok (.iconst 2, 1) := by decide +kernel
theorem dX1_turn_37 : decode cX1_turn 37 = .ok (.invokevirtual 96, 3) := by decide +kernel
theorem dX1_turn_40 : decode cX1_turn 40 = .ok (.ireturn, 1) := by decide +kernel
theorem dX1_turn_41 : decode cX1_turn 41 = .ok (.aload_n 0, 1) := by decide +kernel
theorem dX1_turn_42 : decode cX1_turn 42 = .ok (.iload_n 1, 1) := by decide +kernel
theorem dX1_turn_43 : decode cX1_turn 43 = .ok (.iload_n 2, 1) := by decide +kernel
theorem dX1_turn_44 : decode cX1_turn 44 = .ok (.ifCond .eq 12, 3) := by decide +kernel
theorem dX1_turn_47 : decode cX1_turn 47 = .ok (.aload_n 0, 1) := by decide +kernel
theorem dX1_turn_48 : decode cX1_turn 48 = .ok (.getfield 17, 3) := by decide +kernel
theorem dX1_turn_51 : decode cX1_turn 51 = .ok (.iload_n 3, 1) := by decide +kernel
theorem dX1_turn_52 : decode cX1_turn 52 = .ok (.iaload, 1) := by decide +kernel
theorem dX1_turn_53 : decode cX1_turn 53 = .ok (.goto 9, 3) := by decide +kernel
theorem dX1_turn_56 : decode cX1_turn 56 = .ok (.aload_n 0, 1) := by decide +kernel
theorem dX1_turn_57 : decode cX1_turn 57 = .ok (.getfield 13, 3) := by decide +kernel
theorem dX1_turn_60 : decode cX1_turn 60 = .ok (.iload_n 3, 1) := by decide +kernel
theorem dX1_turn_61 : decode cX1_turn 61 = .ok (.iaload, 1) := by decide +kernel
theorem dX1_turn_62 : decode cX1_turn 62 = .ok (.invokevirtual 112, 3) := by decide +kernel
theorem dX1_turn_65 : decode cX1_turn 65 = .ok (.aload_n 0, 1) := by decide +kernel
theorem dX1_turn_66 : decode cX1_turn 66 = .ok (.getfield 33, 3) := by decide +kernel
theorem dX1_turn_69 : decode cX1_turn 69 = .ok (.iload_n 1, 1) := by decide +kernel
theorem dX1_turn_70 : decode cX1_turn 70 = .ok (.iaload, 1) := by decide +kernel
theorem dX1_turn_71 : decode cX1_turn 71 = .ok (.ireturn, 1) := by decide +kernel
set_option maxRecDepth 20000 in
theorem ggX1_goBack_X1_isStudent : GoodIn wsX1_goBack wsX1_isStudent := goodIn_r _ [9, 10, 11, 12, 8, 13, 18, 19, 20, 21, 22, 23, 24, 25, 26, 27, 28, 29, 30] (by decide +kernel) (by decide +kernel)
set_option maxRecDepth 20000 in
theorem gX1_goBack_X1_isStudent : GoodIn wsX1_goBack (wsV RX1 109 RX1 yX1_isStudent wsX1_isStudent) := goodIn_app (goodIn_of _ (by decide +kernel)) ggX1_goBack_X1_isStudent
set_option maxRecDepth 20000 in
theorem ggX1_goBack_X1_no : GoodIn wsX1_goBack wsX1_no := goodIn_r _ [17, 1, 18, 19, 20, 21, 22, 23, 24, 25, 26, 27, 28, 29, 30] (by decide +kernel) (by decide +kernel)
set_option maxRecDepth 20000 in
theorem gX1_goBack_X1_no : GoodIn wsX1_goBack (wsV RX1 96 RX1 yX1_no wsX1_no) := goodIn_app (goodIn_of _ (by decide +kernel)) ggX1_goBack_X1_no
theorem dX1_goBack_0 : decode cX1_goBack 0 = .ok (.aload_n 0, 1) := by decide +kernel
theorem dX1_goBack_1 : decode cX1_goBack 1 = .ok (.iconst 0, 1) := by decide +kernel
theorem dX1_goBack_2 : decode cX1_goBack 2 = .ok (.putfield 42, 3) := by decide +kernel
theorem dX1_goBack_5 : decode cX1_goBack 5 = .ok (.aload_n 0, 1) := by decide +kernel
theorem dX1_goBack_6 : decode cX1_goBack 6 = .ok (.iload_n 1, 1) := by decide +kernel
theorem dX1_goBack_7 : decode cX1_goBack 7 = .ok (.invokevirtual 109, 3) := by decide +kernel
theorem dX1_goBack_10 : decode cX1_goBack 10 = .ok (.ifCond .ne 9, 3) := by decide +kernel
theorem dX1_goBack_13 : decode cX1_goBack 13 = .ok (.aload_n 0, 1) := by decide +kernel
theorem dX1_goBack_14 : decode cX1_goBack 14 = .ok (.iconst 1, 1) := by decide +kernel
theorem dX1_goBack_15 : decode cX1_goBack 15 = .ok (.invokevirtual 96, 3) := by decide +kernel
theorem dX1_goBack_18 : decode cX1_goBack 18 = .ok (.ireturn, 1) := by decide +kernel
theorem dX1_goBack_19 : decode cX1_goBack 19 = .ok (.aload_n 0, 1) := by decide +kernel
theorem dX1_goBack_20 : decode cX1_goBack 20 = .ok (.getfield 36, 3) := by decide +kernel
theorem dX1_goBack_23 : decode cX1_goBack 23 = .ok (.iload_n 1, 1) := by decide +kernel
theorem dX1_goBack_24 : decode cX1_goBack 24 = .ok (.iaload, 1) := by decide +kernel
theorem dX1_goBack_25 : decode cX1_goBack 25 = .ok (.ifCond .ne 9, 3) := by decide +kernel
theorem dX1_goBack_28 : decode cX1_goBack 28 = .ok (.aload_n 0, 1) := by decide +kernel
theorem dX1_goBack_29 : decode cX1_goBack 29 = .ok (.iconst 2, 1) := by decide +kernel
theorem dX1_goBack_30 : decode cX1_goBack 30 = .ok (.invokevirtual 96, 3) := by decide +kernel
theorem dX1_goBack_33 : decode cX1_goBack 33 = .ok (.ireturn, 1) := by decide +kernel
theorem dX1_goBack_34 : decode cX1_goBack 34 = .ok (.aload_n 0, 1) := by decide +kernel
theorem dX1_goBack_35 : decode cX1_goBack 35 = .ok (.getfield 36, 3) := by decide +kernel
theorem dX1_goBack_38 : decode cX1_goBack 38 = .ok (.iload_n 1, 1) := by decide +kernel
theorem dX1_goBack_39 : decode cX1_goBack 39 = .ok (.dup2, 1) := by decide +kernel
theorem dX1_goBack_40 : decode cX1_goBack 40 = .ok (.iaload, 1) := by decide +kernel
theorem dX1_goBack_41 : decode cX1_goBack 41 = .ok (.iconst 1, 1) := by decide +kernel
theorem dX1_goBack_42 : decode cX1_goBack 42 = .ok (.isub, 1) := by decide +kernel
theorem dX1_goBack_43 : decode cX1_goBack 43 = .ok (.iastore, 1) := by decide +kernel
theorem dX1_goBack_44 : decode cX1_goBack 44 = .ok (.aload_n 0, 1) := by decide +kernel
theorem dX1_goBack_45 : decode cX1_goBack 45 = .ok (.getfield 33, 3) := by decide +kernel
theorem dX1_goBack_48 : decode cX1_goBack 48 = .ok (.iload_n 1, 1) := by decide +kernel
theorem dX1_goBack_49 : decode cX1_goBack 49 = .ok (.aload_n 0, 1) := by decide +kernel
theorem dX1_goBack_50 : decode cX1_goBack 50 = .ok (.getfield 39, 3) := by decide +kernel
theorem dX1_goBack_53 : decode cX1_goBack 53 = .ok (.bipush 40, 2) := by decide +kernel
theorem dX1_goBack_55 : decode cX1_goBack 55 = .ok (.iload_n 1, 1) := by decide +kernel
theorem dX1_goBack_56 : decode cX1_goBack 56 = .ok (.imul, 1) := by decide +kernel
theorem dX1_goBack_57 : decode cX1_goBack 57 = .ok (.aload_n 0, 1) := by decide +kernel
theorem dX1_goBack_58 : decode cX1_goBack 58 = .ok (.getfield 36, 3) := by decide +kernel
theorem dX1_goBack_61 : decode cX1_goBack 61 = .ok (.iload_n 1, 1) := by decide +kernel
theorem dX1_goBack_62 : decode cX1_goBack 62 = .ok (.iaload, 1) := by decide +kernel
theorem dX1_goBack_63 : decode cX1_goBack 63 = .ok (.iadd, 1) := by decide +kernel
theorem dX1_goBack_64 : decode cX1_goBack 64 = .ok (.iaload, 1) := by decide +kernel
theorem dX1_goBack_65 : decode cX1_goBack 65 = .ok (.iastore, 1) := by decide +kernel
theorem dX1_goBack_66 : decode cX1_goBack 66 = .ok (.aload_n 0, 1) := by decide +kernel
theorem dX1_goBack_67 : decode cX1_goBack 67 = .ok (.getfield 33, 3) := by decide +kernel
theorem dX1_goBack_70 : decode cX1_goBack 70 = .ok (.iload_n 1, 1) := by decide +kernel
theorem dX1_goBack_71 : decode cX1_goBack 71 = .ok (.iaload, 1) := by decide +kernel
theorem dX1_goBack_72 : decode cX1_goBack 72 = .ok (.ireturn, 1) := by decide +kernel
set_option maxRecDepth 20000 in
theorem ggX1_follow_X1_isStudent : GoodIn wsX1_follow wsX1_isStudent := goodIn_r _ [9, 10, 11, 12, 8, 13, 49, 50, 51, 52, 53, 54, 55, 56, 57, 58, 59, 60, 61] (by decide +kernel) (by decide +kernel)
set_option maxRecDepth 20000 in
theorem gX1_follow_X1_isStudent : GoodIn wsX1_follow (wsV RX1 109 RX1 yX1_isStudent wsX1_isStudent) := goodIn_app (goodIn_of _ (by decide +kernel)) ggX1_follow_X1_isStudent
set_option maxRecDepth 20000 in
theorem ggX1_follow_X1_no : GoodIn wsX1_follow wsX1_no := goodIn_r _ [17, 1, 49, 50, 51, 52, 53, 54, 55, 56, 57, 58, 59, 60, 61] (by decide +kernel) (by decide +kernel)
set_option maxRecDepth 20000 in
theorem gX1_follow_X1_no : GoodIn wsX1_follow (wsV RX1 96 RX1 yX1_no wsX1_no) := goodIn_app (goodIn_of _ (by decide +kernel)) ggX1_follow_X1_no
set_option maxRecDepth 20000 in
theorem ggX1_follow_X1_table : GoodIn wsX1_follow wsX1_table := goodIn_r _ [21, 22, 3, 23, 24, 25, 26, 27, 28, 29, 30, 31, 49, 50, 51, 52, 53, 54, 55, 56, 57, 58, 59, 60, 61] (by decide +kernel) (by decide +kernel)
set_option maxRecDepth 20000 in
theorem gX1_follow_X1_table : GoodIn wsX1_follow (wsV RX1 116 RX1 yX1_table wsX1_table) := goodIn_app (goodIn_of _ (by decide +kernel)) ggX1_follow_X1_table
set_option maxRecDepth 20000 in
theorem ggX1_follow_X1_planned : GoodIn wsX1_follow wsX1_planned := goodIn_r _ [35, 26, 25, 36, 37, 38, 8, 39, 40, 41, 42, 43, 31, 24, 27, 28, 29, 30, 23, 49, 50, 51, 52, 53, 54, 55, 56, 57, 58, 59, 60, 61] (by decide +kernel) (by decide +kernel)
set_option maxRecDepth 20000 in
theorem gX1_follow_X1_planned : GoodIn wsX1_follow (wsV RX1 73 RX1 yX1_planned wsX1_planned) := goodIn_app (goodIn_of _ (by decide +kernel)) ggX1_follow_X1_planned
set_option maxRecDepth 20000 in
theorem ggX1_follow_X1_go : GoodIn wsX1_follow wsX1_go := goodIn_r _ [47, 48, 2, 4, 49, 50, 51, 52, 53, 54, 55, 56, 57, 58, 59, 60, 61] (by decide +kernel) (by decide +kernel)
set_option maxRecDepth 20000 in
theorem gX1_follow_X1_go : GoodIn wsX1_follow (wsV RX1 112 RX1 yX1_go wsX1_go) := goodIn_app (goodIn_of _ (by decide +kernel)) ggX1_follow_X1_go
theorem dX1_follow_0 : decode cX1_follow 0 = .ok (.aload_n 0, 1) := by decide +kernel
theorem dX1_follow_1 : decode cX1_follow 1 = .ok (.iconst 0, 1) := by decide +kernel
theorem dX1_follow_2 : decode cX1_follow 2 = .ok (.putfield 42, 3) := by decide +kernel
theorem dX1_follow_5 : decode cX1_follow 5 = .ok (.aload_n 0, 1) := by decide +kernel
theorem dX1_follow_6 : decode cX1_follow 6 = .ok (.iload_n 1, 1) := by decide +kernel
theorem dX1_follow_7 : decode cX1_follow 7 = .ok (.invokevirtual 109, 3) := by decide +kernel
theorem dX1_follow_10 : decode cX1_follow 10 = .ok (.ifCond .ne 9, 3) := by decide +kernel
theorem dX1_follow_13 : decode cX1_follow 13 = .ok (.aload_n 0, 1) := by decide +kernel
theorem dX1_follow_14 : decode cX1_follow 14 = .ok (.iconst 1, 1) := by decide +kernel
theorem dX1_follow_15 : decode cX1_follow 15 = .ok (.invokevirtual 96, 3) := by decide +kernel
theorem dX1_follow_18 : decode cX1_follow 18 = .ok (.ireturn, 1) := by decide +kernel
theorem dX1_follow_19 : decode cX1_follow 19 = .ok (.aload_n 0, 1) := by decide +kernel
theorem dX1_follow_20 : decode cX1_follow 20 = .ok (.getfield 36, 3) := by decide +kernel
theorem dX1_follow_23 : decode cX1_follow 23 = .ok (.iload_n 1, 1) := by decide +kernel
theorem dX1_follow_24 : decode cX1_follow 24 = .ok (.iaload, 1) := by decide +kernel
theorem dX1_follow_25 : decode cX1_follow 25 = .ok (.istore_n 2, 1) := by decide +kernel
theorem dX1_follow_26 : decode cX1_follow 26 = .ok (.aload_n 0, 1) := by decide +kernel
theorem dX1_follow_27 : decode cX1_follow 27 = .ok (.invokevirtual 116, 3) := by decide +kernel
theorem dX1_follow_30 : decode cX1_follow 30 = .ok (.aload_n 0, 1) := by decide +kernel
theorem dX1_follow_31 : decode cX1_follow 31 = .ok (.getfield 9, 3) := by decide +kernel
theorem dX1_follow_34 : decode cX1_follow 34 = .ok (.aload_n 0, 1) := by decide +kernel
theorem dX1_follow_35 : decode cX1_follow 35 = .ok (.getfield 33, 3) := by decide +kernel
theorem dX1_follow_38 : decode cX1_follow 38 = .ok (.iload_n 1, 1) := by decide +kernel
theorem dX1_follow_39 : decode cX1_follow 39 = .ok (.iaload, 1) := by decide +kernel
theorem dX1_follow_40 : decode cX1_follow 40 = .ok (.baload, 1) := by decide +kernel
theorem dX1_follow_41 : decode cX1_follow 41 = .ok (.ifCond .eq 21, 3) := by decide +kernel
theorem dX1_follow_44 : decode cX1_follow 44 = .ok (.aload_n 0, 1) := by decide +kernel
theorem dX1_follow_45 : decode cX1_follow 45 = .ok (.iload_n 1, 1) := by decide +kernel
theorem dX1_follow_46 : decode cX1_follow 46 = .ok (.aload_n 0, 1) := by decide +kernel
theorem dX1_follow_47 : decode cX1_follow 47 = .ok (.aload_n 0, 1) := by decide +kernel
theorem dX1_follow_48 : decode cX1_follow 48 = .ok (.getfield 33, 3) := by decide +kernel
theorem dX1_follow_51 : decode cX1_follow 51 = .ok (.iload_n 1, 1) := by decide +kernel
theorem dX1_follow_52 : decode cX1_follow 52 = .ok (.iaload, 1) := by decide +kernel
theorem dX1_follow_53 : decode cX1_follow 53 = .ok (.invokevirtual 73, 3) := by decide +kernel
theorem dX1_follow_56 : decode cX1_follow 56 = .ok (.invokevirtual 112, 3) := by decide +kernel
theorem dX1_follow_59 : decode cX1_follow 59 = .ok (.goto (-29), 3) := by decide +kernel
theorem dX1_follow_62 : decode cX1_follow 62 = .ok (.aload_n 0, 1) := by decide +kernel
theorem dX1_follow_63 : decode cX1_follow 63 = .ok (.getfield 36, 3) := by decide +kernel
theorem dX1_follow_66 : decode cX1_follow 66 = .ok (.iload_n 1, 1) := by decide +kernel
theorem dX1_follow_67 : decode cX1_follow 67 = .ok (.iaload, 1) := by decide +kernel
theorem dX1_follow_68 : decode cX1_follow 68 = .ok (.iload_n 2, 1) := by decide +kernel
theorem dX1_follow_69 : decode cX1_follow 69 = .ok (.isub, 1) := by decide +kernel
theorem dX1_follow_70 : decode cX1_follow 70 = .ok (.ireturn, 1) := by decide +kernel
set_option maxRecDepth 20000 in
theorem ggX1_places_X1_ok : GoodIn wsX1_places wsX1_ok := goodIn_r _ [6, 7, 8, 9, 10, 11, 12, 13, 14, 15, 16, 17, 18, 19, 20] (by decide +kernel) (by decide +kernel)
set_option maxRecDepth 20000 in
theorem gX1_places_X1_ok : GoodIn wsX1_places (wsV RX1 119 RX1 yX1_ok wsX1_ok) := goodIn_app (goodIn_of _ (by decide +kernel)) ggX1_places_X1_ok
theorem dX1_places_0 : decode cX1_places 0 = .ok (.aload_n 0, 1) := by decide +kernel
theorem dX1_places_1 : decode cX1_places 1 = .ok (.aload_n 0, 1) := by decide +kernel
theorem dX1_places_2 : decode cX1_places 2 = .ok (.getfield 46, 3) := by decide +kernel
theorem dX1_places_5 : decode cX1_places 5 = .ok (.invokevirtual 119, 3) := by decide +kernel
theorem dX1_places_8 : decode cX1_places 8 = .ok (.ireturn, 1) := by decide +kernel
theorem dX1_examsNow_0 : decode cX1_examsNow 0 = .ok (.iconst 0, 1) := by decide +kernel
theorem dX1_examsNow_1 : decode cX1_examsNow 1 = .ok (.istore_n 1, 1) := by decide +kernel
theorem dX1_examsNow_2 : decode cX1_examsNow 2 = .ok (.iconst 0, 1) := by decide +kernel
theorem dX1_examsNow_3 : decode cX1_examsNow 3 = .ok (.istore_n 2, 1) := by decide +kernel
theorem dX1_examsNow_4 : decode cX1_examsNow 4 = .ok (.iload_n 2, 1) := by decide +kernel
theorem dX1_examsNow_5 : decode cX1_examsNow 5 = .ok (.aload_n 0, 1) := by decide +kernel
theorem dX1_examsNow_6 : decode cX1_examsNow 6 = .ok (.getfield 46, 3) := by decide +kernel
theorem dX1_examsNow_9 : decode cX1_examsNow 9 = .ok (.if_icmp .ge 26, 3) := by decide +kernel
theorem dX1_examsNow_12 : decode cX1_examsNow 12 = .ok (.iload_n 1, 1) := by decide +kernel
theorem dX1_examsNow_13 : decode cX1_examsNow 13 = .ok (.aload_n 0, 1) := by decide +kernel
theorem dX1_examsNow_14 : decode cX1_examsNow 14 = .ok (.getfield 9, 3) := by decide +kernel
theorem dX1_examsNow_17 : decode cX1_examsNow 17 = .ok (.iload_n 2, 1) := by decide +kernel
theorem dX1_examsNow_18 : decode cX1_examsNow 18 = .ok (.baload, 1) := by decide +kernel
theorem dX1_examsNow_19 : decode cX1_examsNow 19 = .ok (.ifCond .eq 7, 3) := by decide +kernel
theorem dX1_examsNow_22 : decode cX1_examsNow 22 = .ok (.iconst 0, 1) := by decide +kernel
theorem dX1_examsNow_23 : decode cX1_examsNow 23 = .ok (.goto 4, 3) := by decide +kernel
theorem dX1_examsNow_26 : decode cX1_examsNow 26 = .ok (.iconst 1, 1) := by decide +kernel
theorem dX1_examsNow_27 : decode cX1_examsNow 27 = .ok (.iadd, 1) := by decide +kernel
theorem dX1_examsNow_28 : decode cX1_examsNow 28 = .ok (.istore_n 1, 1) := by decide +kernel
theorem dX1_examsNow_29 : decode cX1_examsNow 29 = .ok (.iinc 2 1, 3) := by decide +kernel
theorem dX1_examsNow_32 : decode cX1_examsNow 32 = .ok (.goto (-28), 3) := by decide +kernel
theorem dX1_examsNow_35 : decode cX1_examsNow 35 = .ok (.iload_n 1, 1) := by decide +kernel
theorem dX1_examsNow_36 : decode cX1_examsNow 36 = .ok (.ireturn, 1) := by decide +kernel
set_option maxRecDepth 20000 in
theorem ggX1_exams_X1_examsNow : GoodIn wsX1_exams wsX1_examsNow := goodIn_r _ [5, 6, 7, 13, 14, 15, 16, 17, 18, 19, 20, 21, 22, 23, 24, 25] (by decide +kernel) (by decide +kernel)
set_option maxRecDepth 20000 in
theorem gX1_exams_X1_examsNow : GoodIn wsX1_exams (wsV RX1 122 RX1 yX1_examsNow wsX1_examsNow) := goodIn_app (goodIn_of _ (by decide +kernel)) ggX1_exams_X1_examsNow
set_option maxRecDepth 20000 in
theorem ggX1_exams_X1_ok : GoodIn wsX1_exams wsX1_ok := goodIn_r _ [11, 12, 13, 14, 15, 16, 17, 18, 19, 20, 21, 22, 23, 24, 25] (by decide +kernel) (by decide +kernel)
set_option maxRecDepth 20000 in
theorem gX1_exams_X1_ok : GoodIn wsX1_exams (wsV RX1 119 RX1 yX1_ok wsX1_ok) := goodIn_app (goodIn_of _ (by decide +kernel)) ggX1_exams_X1_ok
theorem dX1_exams_0 : decode cX1_exams 0 = .ok (.aload_n 0, 1) := by decide +kernel
theorem dX1_exams_1 : decode cX1_exams 1 = .ok (.aload_n 0, 1) := by decide +kernel
theorem dX1_exams_2 : decode cX1_exams 2 = .ok (.invokevirtual 122, 3) := by decide +kernel
theorem dX1_exams_5 : decode cX1_exams 5 = .ok (.invokevirtual 119, 3) := by decide +kernel
theorem dX1_exams_8 : decode cX1_exams 8 = .ok (.ireturn, 1) := by decide +kernel
set_option maxRecDepth 20000 in
theorem ggX1_graded_X1_gradedNow : GoodIn wsX1_graded wsX1_gradedNow := goodIn_r _ [5, 6, 7, 8, 14, 15, 16, 17, 18, 19, 20, 21, 22, 23, 24, 25, 26] (by decide +kernel) (by decide +kernel)
set_option maxRecDepth 20000 in
theorem gX1_graded_X1_gradedNow : GoodIn wsX1_graded (wsV RX1 102 RX1 yX1_gradedNow wsX1_gradedNow) := goodIn_app (goodIn_of _ (by decide +kernel)) ggX1_graded_X1_gradedNow
set_option maxRecDepth 20000 in
theorem ggX1_graded_X1_ok : GoodIn wsX1_graded wsX1_ok := goodIn_r _ [12, 13, 14, 15, 16, 17, 18, 19, 20, 21, 22, 23, 24, 25, 26] (by decide +kernel) (by decide +kernel)
set_option maxRecDepth 20000 in
theorem gX1_graded_X1_ok : GoodIn wsX1_graded (wsV RX1 119 RX1 yX1_ok wsX1_ok) := goodIn_app (goodIn_of _ (by decide +kernel)) ggX1_graded_X1_ok
theorem dX1_graded_0 : decode cX1_graded 0 = .ok (.aload_n 0, 1) := by decide +kernel
theorem dX1_graded_1 : decode cX1_graded 1 = .ok (.aload_n 0, 1) := by decide +kernel
theorem dX1_graded_2 : decode cX1_graded 2 = .ok (.invokevirtual 102, 3) := by decide +kernel
theorem dX1_graded_5 : decode cX1_graded 5 = .ok (.invokevirtual 119, 3) := by decide +kernel
theorem dX1_graded_8 : decode cX1_graded 8 = .ok (.ireturn, 1) := by decide +kernel
set_option maxRecDepth 20000 in
theorem ggX1_students_X1_ok : GoodIn wsX1_students wsX1_ok := goodIn_r _ [6, 7, 8, 9, 10, 11, 12, 13, 14, 15, 16, 17, 18, 19, 20] (by decide +kernel) (by decide +kernel)
set_option maxRecDepth 20000 in
theorem gX1_students_X1_ok : GoodIn wsX1_students (wsV RX1 119 RX1 yX1_ok wsX1_ok) := goodIn_app (goodIn_of _ (by decide +kernel)) ggX1_students_X1_ok
theorem dX1_students_0 : decode cX1_students 0 = .ok (.aload_n 0, 1) := by decide +kernel
theorem dX1_students_1 : decode cX1_students 1 = .ok (.aload_n 0, 1) := by decide +kernel
theorem dX1_students_2 : decode cX1_students 2 = .ok (.getfield 57, 3) := by decide +kernel
theorem dX1_students_5 : decode cX1_students 5 = .ok (.invokevirtual 119, 3) := by decide +kernel
theorem dX1_students_8 : decode cX1_students 8 = .ok (.ireturn, 1) := by decide +kernel
theorem dX1_atEnds_0 : decode cX1_atEnds 0 = .ok (.iconst 0, 1) := by decide +kernel
theorem dX1_atEnds_1 : decode cX1_atEnds 1 = .ok (.istore_n 1, 1) := by decide +kernel
theorem dX1_atEnds_2 : decode cX1_atEnds 2 = .ok (.iconst 0, 1) := by decide +kernel
theorem dX1_atEnds_3 : decode cX1_atEnds 3 = .ok (.istore_n 2, 1) := by decide +kernel
theorem dX1_atEnds_4 : decode cX1_atEnds 4 = .ok (.iload_n 2, 1) := by decide +kernel
theorem dX1_atEnds_5 : decode cX1_atEnds 5 = .ok (.aload_n 0, 1) := by decide +kernel
theorem dX1_atEnds_6 : decode cX1_atEnds 6 = .ok (.getfield 57, 3) := by decide +kernel
theorem dX1_atEnds_9 : decode cX1_atEnds 9 = .ok (.if_icmp .ge 31, 3) := by decide +kernel
theorem dX1_atEnds_12 : decode cX1_atEnds 12 = .ok (.iload_n 1, 1) := by decide +kernel
theorem dX1_atEnds_13 : decode cX1_atEnds 13 = .ok (.aload_n 0, 1) := by decide +kernel
theorem dX1_atEnds_14 : decode cX1_atEnds 14 = .ok (.getfield 9, 3) := by decide +kernel
theorem dX1_atEnds_17 : decode cX1_atEnds 17 = .ok (.aload_n 0, 1) := by decide +kernel
theorem dX1_atEnds_18 : decode cX1_atEnds 18 = .ok (.getfield 33, 3) := by decide +kernel
theorem dX1_atEnds_21 : decode cX1_atEnds 21 = .ok (.iload_n 2, 1) := by decide +kernel
theorem dX1_atEnds_22 : decode cX1_atEnds 22 = .ok (.iaload, 1) := by decide +kernel
theorem dX1_atEnds_23 : decode cX1_atEnds 23 = .ok (.baload, 1) := by decide +kernel
theorem dX1_atEnds_24 : decode cX1_atEnds 24 = .ok (.ifCond .eq 7, 3) := by decide +kernel
theorem dX1_atEnds_27 : decode cX1_atEnds 27 = .ok (.iconst 0, 1) := by decide +kernel
theorem dX1_atEnds_28 : decode cX1_atEnds 28 = .ok (.goto 4, 3) := by decide +kernel
theorem dX1_atEnds_31 : decode cX1_atEnds 31 = .ok (.iconst 1, 1) := by decide +kernel
theorem dX1_atEnds_32 : decode cX1_atEnds 32 = .ok (.iadd, 1) := by decide +kernel
theorem dX1_atEnds_33 : decode cX1_atEnds 33 = .ok (.istore_n 1, 1) := by decide +kernel
theorem dX1_atEnds_34 : decode cX1_atEnds 34 = .ok (.iinc 2 1, 3) := by decide +kernel
theorem dX1_atEnds_37 : decode cX1_atEnds 37 = .ok (.goto (-33), 3) := by decide +kernel
theorem dX1_atEnds_40 : decode cX1_atEnds 40 = .ok (.iload_n 1, 1) := by decide +kernel
theorem dX1_atEnds_41 : decode cX1_atEnds 41 = .ok (.ireturn, 1) := by decide +kernel
set_option maxRecDepth 20000 in
theorem ggX1_atExams_X1_atEnds : GoodIn wsX1_atExams wsX1_atEnds := goodIn_r _ [5, 6, 7, 8, 14, 15, 16, 17, 18, 19, 20, 21, 22, 23, 24, 25, 26] (by decide +kernel) (by decide +kernel)
set_option maxRecDepth 20000 in
theorem gX1_atExams_X1_atEnds : GoodIn wsX1_atExams (wsV RX1 125 RX1 yX1_atEnds wsX1_atEnds) := goodIn_app (goodIn_of _ (by decide +kernel)) ggX1_atExams_X1_atEnds
set_option maxRecDepth 20000 in
theorem ggX1_atExams_X1_ok : GoodIn wsX1_atExams wsX1_ok := goodIn_r _ [12, 13, 14, 15, 16, 17, 18, 19, 20, 21, 22, 23, 24, 25, 26] (by decide +kernel) (by decide +kernel)
set_option maxRecDepth 20000 in
theorem gX1_atExams_X1_ok : GoodIn wsX1_atExams (wsV RX1 119 RX1 yX1_ok wsX1_ok) := goodIn_app (goodIn_of _ (by decide +kernel)) ggX1_atExams_X1_ok
theorem dX1_atExams_0 : decode cX1_atExams 0 = .ok (.aload_n 0, 1) := by decide +kernel
theorem dX1_atExams_1 : decode cX1_atExams 1 = .ok (.aload_n 0, 1) := by decide +kernel
theorem dX1_atExams_2 : decode cX1_atExams 2 = .ok (.invokevirtual 125, 3) := by decide +kernel
theorem dX1_atExams_5 : decode cX1_atExams 5 = .ok (.invokevirtual 119, 3) := by decide +kernel
theorem dX1_atExams_8 : decode cX1_atExams 8 = .ok (.ireturn, 1) := by decide +kernel
set_option maxRecDepth 20000 in
theorem ggX1_isExam_X1_isPlace : GoodIn wsX1_isExam wsX1_isPlace := goodIn_r _ [7, 8, 9, 10, 6, 11, 16, 17, 18, 19, 20, 21, 22, 23, 24, 25, 26, 27, 28] (by decide +kernel) (by decide +kernel)
set_option maxRecDepth 20000 in
theorem gX1_isExam_X1_isPlace : GoodIn wsX1_isExam (wsV RX1 53 RX1 yX1_isPlace wsX1_isPlace) := goodIn_app (goodIn_of _ (by decide +kernel)) ggX1_isExam_X1_isPlace
set_option maxRecDepth 20000 in
theorem ggX1_isExam_X1_isNot : GoodIn wsX1_isExam wsX1_isNot := goodIn_r _ [15, 1, 16, 17, 18, 19, 20, 21, 22, 23, 24, 25, 26, 27, 28] (by decide +kernel) (by decide +kernel)
set_option maxRecDepth 20000 in
theorem gX1_isExam_X1_isNot : GoodIn wsX1_isExam (wsV RX1 128 RX1 yX1_isNot wsX1_isNot) := goodIn_app (goodIn_of _ (by decide +kernel)) ggX1_isExam_X1_isNot
theorem dX1_isExam_0 : decode cX1_isExam 0 = .ok (.aload_n 0, 1) := by decide +kernel
theorem dX1_isExam_1 : decode cX1_isExam 1 = .ok (.iconst 0, 1) := by decide +kernel
theorem dX1_isExam_2 : decode cX1_isExam 2 = .ok (.putfield 42, 3) := by decide +kernel
theorem dX1_isExam_5 : decode cX1_isExam 5 = .ok (.aload_n 0, 1) := by decide +kernel
theorem dX1_isExam_6 : decode cX1_isExam 6 = .ok (.iload_n 1, 1) := by decide +kernel
theorem dX1_isExam_7 : decode cX1_isExam 7 = .ok (.invokevirtual 53, 3) := by decide +kernel
theorem dX1_isExam_10 : decode cX1_isExam 10 = .ok (.ifCond .eq 20, 3) := by decide +kernel
theorem dX1_isExam_13 : decode cX1_isExam 13 = .ok (.aload_n 0, 1) := by decide +kernel
theorem dX1_isExam_14 : decode cX1_isExam 14 = .ok (.getfield 9, 3) := by decide +kernel
theorem dX1_isExam_17 : decode cX1_isExam 17 = .ok (.iload_n 1, 1) := by decide +kernel
theorem dX1_isExam_18 : decode cX1_isExam 18 = .ok (.baload, 1) := by decide +kernel
theorem dX1_isExam_19 : decode cX1_isExam 19 = .ok (.ifCond .ne 7, 3) := by decide +kernel
theorem dX1_isExam_22 : decode cX1_isExam 22 = .ok (.iconst 1, 1) := by decide +kernel
theorem dX1_isExam_23 : decode cX1_isExam 23 = .ok (.goto 12, 3) := by decide +kernel
theorem dX1_isExam_26 : decode cX1_isExam 26 = .ok (.iconst 0, 1) := by decide +kernel
theorem dX1_isExam_27 : decode cX1_isExam 27 = .ok (.goto 8, 3) := by decide +kernel
theorem dX1_isExam_30 : decode cX1_isExam 30 = .ok (.aload_n 0, 1) := by decide +kernel
theorem dX1_isExam_31 : decode cX1_isExam 31 = .ok (.iconst 1, 1) := by decide +kernel
theorem dX1_isExam_32 : decode cX1_isExam 32 = .ok (.invokevirtual 128, 3) := by decide +kernel
theorem dX1_isExam_35 : decode cX1_isExam 35 = .ok (.ireturn, 1) := by decide +kernel
set_option maxRecDepth 20000 in
theorem ggX1_isGraded_X1_isExamAt : GoodIn wsX1_isGraded wsX1_isExamAt := goodIn_r _ [7, 8, 9, 10, 11, 6, 12, 13, 14, 15, 16, 21, 22, 23, 24, 25, 26, 27, 28, 29, 30, 31, 32, 33] (by decide +kernel) (by decide +kernel)
set_option maxRecDepth 20000 in
theorem gX1_isGraded_X1_isExamAt : GoodIn wsX1_isGraded (wsV RX1 99 RX1 yX1_isExamAt wsX1_isExamAt) := goodIn_app (goodIn_of _ (by decide +kernel)) ggX1_isGraded_X1_isExamAt
set_option maxRecDepth 20000 in
theorem ggX1_isGraded_X1_isNot : GoodIn wsX1_isGraded wsX1_isNot := goodIn_r _ [20, 1, 21, 22, 23, 24, 25, 26, 27, 28, 29, 30, 31, 32, 33] (by decide +kernel) (by decide +kernel)
set_option maxRecDepth 20000 in
theorem gX1_isGraded_X1_isNot : GoodIn wsX1_isGraded (wsV RX1 128 RX1 yX1_isNot wsX1_isNot) := goodIn_app (goodIn_of _ (by decide +kernel)) ggX1_isGraded_X1_isNot
theorem dX1_isGraded_0 : decode cX1_isGraded 0 = .ok (.aload_n 0, 1) := by decide +kernel
theorem dX1_isGraded_1 : decode cX1_isGraded 1 = .ok (.iconst 0, 1) := by decide +kernel
theorem dX1_isGraded_2 : decode cX1_isGraded 2 = .ok (.putfield 42, 3) := by decide +kernel
theorem dX1_isGraded_5 : decode cX1_isGraded 5 = .ok (.aload_n 0, 1) := by decide +kernel
theorem dX1_isGraded_6 : decode cX1_isGraded 6 = .ok (.iload_n 1, 1) := by decide +kernel
theorem dX1_isGraded_7 : decode cX1_isGraded 7 = .ok (.invokevirtual 99, 3) := by decide +kernel
theorem dX1_isGraded_10 : decode cX1_isGraded 10 = .ok (.ifCond .eq 21, 3) := by decide +kernel
theorem dX1_isGraded_13 : decode cX1_isGraded 13 = .ok (.aload_n 0, 1) := by decide +kernel
theorem dX1_isGraded_14 : decode cX1_isGraded 14 = .ok (.getfield 20, 3) := by decide +kernel
theorem dX1_isGraded_17 : decode cX1_isGraded 17 = .ok (.iload_n 1, 1) := by decide +kernel
theorem dX1_isGraded_18 : decode cX1_isGraded 18 = .ok (.iaload, 1) := by decide +kernel
theorem dX1_isGraded_19 : decode cX1_isGraded 19 = .ok (.iconst (-1), 1) := by decide +kernel
theorem dX1_isGraded_20 : decode cX1_isGraded 20 = .ok (.if_icmp .eq 7, 3) := by decide +kernel
theorem dX1_isGraded_23 : decode cX1_isGraded 23 = .ok (.iconst 1, 1) := by decide +kernel
theorem dX1_isGraded_24 : decode cX1_isGraded 24 = .ok (.goto 12, 3) := by decide +kernel
theorem dX1_isGraded_27 : decode cX1_isGraded 27 = .ok (.iconst 0, 1) := by decide +kernel
theorem dX1_isGraded_28 : decode cX1_isGraded 28 = .ok (.goto 8, 3) := by decide +kernel
theorem dX1_isGraded_31 : decode cX1_isGraded 31 = .ok (.aload_n 0, 1) := by decide +kernel
theorem dX1_isGraded_32 : decode cX1_isGraded 32 = .ok (.iconst 1, 1) := by decide +kernel
theorem dX1_isGraded_33 : decode cX1_isGraded 33 = .ok (.invokevirtual 128, 3) := by decide +kernel
theorem dX1_isGraded_36 : decode cX1_isGraded 36 = .ok (.ireturn, 1) := by decide +kernel
set_option maxRecDepth 20000 in
theorem ggX1_gradeOf_X1_isExamAt : GoodIn wsX1_gradeOf wsX1_isExamAt := goodIn_r _ [7, 8, 9, 10, 11, 6, 12, 13, 14, 15, 16, 21, 22, 23, 24, 25, 26, 27, 28, 29, 30, 31, 32, 33] (by decide +kernel) (by decide +kernel)
set_option maxRecDepth 20000 in
theorem gX1_gradeOf_X1_isExamAt : GoodIn wsX1_gradeOf (wsV RX1 99 RX1 yX1_isExamAt wsX1_isExamAt) := goodIn_app (goodIn_of _ (by decide +kernel)) ggX1_gradeOf_X1_isExamAt
set_option maxRecDepth 20000 in
theorem ggX1_gradeOf_X1_no : GoodIn wsX1_gradeOf wsX1_no := goodIn_r _ [20, 1, 21, 22, 23, 24, 25, 26, 27, 28, 29, 30, 31, 32, 33] (by decide +kernel) (by decide +kernel)
set_option maxRecDepth 20000 in
theorem gX1_gradeOf_X1_no : GoodIn wsX1_gradeOf (wsV RX1 96 RX1 yX1_no wsX1_no) := goodIn_app (goodIn_of _ (by decide +kernel)) ggX1_gradeOf_X1_no
theorem dX1_gradeOf_0 : decode cX1_gradeOf 0 = .ok (.aload_n 0, 1) := by decide +kernel
theorem dX1_gradeOf_1 : decode cX1_gradeOf 1 = .ok (.iconst 0, 1) := by decide +kernel
theorem dX1_gradeOf_2 : decode cX1_gradeOf 2 = .ok (.putfield 42, 3) := by decide +kernel
theorem dX1_gradeOf_5 : decode cX1_gradeOf 5 = .ok (.aload_n 0, 1) := by decide +kernel
theorem dX1_gradeOf_6 : decode cX1_gradeOf 6 = .ok (.iload_n 1, 1) := by decide +kernel
theorem dX1_gradeOf_7 : decode cX1_gradeOf 7 = .ok (.invokevirtual 99, 3) := by decide +kernel
theorem dX1_gradeOf_10 : decode cX1_gradeOf 10 = .ok (.ifCond .eq 12, 3) := by decide +kernel
theorem dX1_gradeOf_13 : decode cX1_gradeOf 13 = .ok (.aload_n 0, 1) := by decide +kernel
theorem dX1_gradeOf_14 : decode cX1_gradeOf 14 = .ok (.getfield 20, 3) := by decide +kernel
theorem dX1_gradeOf_17 : decode cX1_gradeOf 17 = .ok (.iload_n 1, 1) := by decide +kernel
theorem dX1_gradeOf_18 : decode cX1_gradeOf 18 = .ok (.iaload, 1) := by decide +kernel
theorem dX1_gradeOf_19 : decode cX1_gradeOf 19 = .ok (.goto 8, 3) := by decide +kernel
theorem dX1_gradeOf_22 : decode cX1_gradeOf 22 = .ok (.aload_n 0, 1) := by decide +kernel
theorem dX1_gradeOf_23 : decode cX1_gradeOf 23 = .ok (.iconst 1, 1) := by decide +kernel
theorem dX1_gradeOf_24 : decode cX1_gradeOf 24 = .ok (.invokevirtual 96, 3) := by decide +kernel
theorem dX1_gradeOf_27 : decode cX1_gradeOf 27 = .ok (.ireturn, 1) := by decide +kernel
set_option maxRecDepth 20000 in
theorem ggX1_ofFork_X1_isForkAt : GoodIn wsX1_ofFork wsX1_isForkAt := goodIn_r _ [6, 7, 8, 9, 10, 5, 11, 12, 13, 14, 15, 20, 21, 22, 23, 24, 25, 26, 27, 28, 29, 30, 31, 32] (by decide +kernel) (by decide +kernel)
set_option maxRecDepth 20000 in
theorem gX1_ofFork_X1_isForkAt : GoodIn wsX1_ofFork (wsV RX1 106 RX1 yX1_isForkAt wsX1_isForkAt) := goodIn_app (goodIn_of _ (by decide +kernel)) ggX1_ofFork_X1_isForkAt
set_option maxRecDepth 20000 in
theorem ggX1_ofFork_X1_no : GoodIn wsX1_ofFork wsX1_no := goodIn_r _ [19, 1, 20, 21, 22, 23, 24, 25, 26, 27, 28, 29, 30, 31, 32] (by decide +kernel) (by decide +kernel)
set_option maxRecDepth 20000 in
theorem gX1_ofFork_X1_no : GoodIn wsX1_ofFork (wsV RX1 96 RX1 yX1_no wsX1_no) := goodIn_app (goodIn_of _ (by decide +kernel)) ggX1_ofFork_X1_no
theorem dX1_ofFork_0 : decode cX1_ofFork 0 = .ok (.aload_n 0, 1) := by decide +kernel
theorem dX1_ofFork_1 : decode cX1_ofFork 1 = .ok (.iconst 0, 1) := by decide +kernel
theorem dX1_ofFork_2 : decode cX1_ofFork 2 = .ok (.putfield 42, 3) := by decide +kernel
theorem dX1_ofFork_5 : decode cX1_ofFork 5 = .ok (.aload_n 0, 1) := by decide +kernel
theorem dX1_ofFork_6 : decode cX1_ofFork 6 = .ok (.iload_n 1, 1) := by decide +kernel
theorem dX1_ofFork_7 : decode cX1_ofFork 7 = .ok (.invokevirtual 106, 3) := by decide +kernel
theorem dX1_ofFork_10 : decode cX1_ofFork 10 = .ok (.ifCond .eq 9, 3) := by decide +kernel
theorem dX1_ofFork_13 : decode cX1_ofFork 13 = .ok (.aload_n 2, 1) := by decide +kernel
theorem dX1_ofFork_14 : decode cX1_ofFork 14 = .ok (.iload_n 1, 1) := by decide +kernel
theorem dX1_ofFork_15 : decode cX1_ofFork 15 = .ok (.iaload, 1) := by decide +kernel
theorem dX1_ofFork_16 : decode cX1_ofFork 16 = .ok (.goto 8, 3) := by decide +kernel
theorem dX1_ofFork_19 : decode cX1_ofFork 19 = .ok (.aload_n 0, 1) := by decide +kernel
theorem dX1_ofFork_20 : decode cX1_ofFork 20 = .ok (.iconst 1, 1) := by decide +kernel
theorem dX1_ofFork_21 : decode cX1_ofFork 21 = .ok (.invokevirtual 96, 3) := by decide +kernel
theorem dX1_ofFork_24 : decode cX1_ofFork 24 = .ok (.ireturn, 1) := by decide +kernel
set_option maxRecDepth 20000 in
theorem ggX1_leftOf_X1_ofFork : GoodIn wsX1_leftOf wsX1_ofFork := goodIn_r _ [6, 7, 8, 9, 10, 5, 11, 12, 13, 14, 15, 16, 17, 18, 19, 20, 21, 22, 23, 24, 25, 26, 27, 28, 29, 30, 31, 32, 33, 34, 35, 36, 37] (by decide +kernel) (by decide +kernel)
set_option maxRecDepth 20000 in
theorem gX1_leftOf_X1_ofFork : GoodIn wsX1_leftOf (wsV RX1 131 RX1 yX1_ofFork wsX1_ofFork) := goodIn_app (goodIn_of _ (by decide +kernel)) ggX1_leftOf_X1_ofFork
theorem dX1_leftOf_0 : decode cX1_leftOf 0 = .ok (.aload_n 0, 1) := by decide +kernel
theorem dX1_leftOf_1 : decode cX1_leftOf 1 = .ok (.iload_n 1, 1) := by decide +kernel
theorem dX1_leftOf_2 : decode cX1_leftOf 2 = .ok (.aload_n 0, 1) := by decide +kernel
theorem dX1_leftOf_3 : decode cX1_leftOf 3 = .ok (.getfield 13, 3) := by decide +kernel
theorem dX1_leftOf_6 : decode cX1_leftOf 6 = .ok (.invokevirtual 131, 3) := by decide +kernel
theorem dX1_leftOf_9 : decode cX1_leftOf 9 = .ok (.ireturn, 1) := by decide +kernel
set_option maxRecDepth 20000 in
theorem ggX1_rightOf_X1_ofFork : GoodIn wsX1_rightOf wsX1_ofFork := goodIn_r _ [6, 7, 8, 9, 10, 5, 11, 12, 13, 14, 15, 16, 17, 18, 19, 20, 21, 22, 23, 24, 25, 26, 27, 28, 29, 30, 31, 32, 33, 34, 35, 36, 37] (by decide +kernel) (by decide +kernel)
set_option maxRecDepth 20000 in
theorem gX1_rightOf_X1_ofFork : GoodIn wsX1_rightOf (wsV RX1 131 RX1 yX1_ofFork wsX1_ofFork) := goodIn_app (goodIn_of _ (by decide +kernel)) ggX1_rightOf_X1_ofFork
theorem dX1_rightOf_0 : decode cX1_rightOf 0 = .ok (.aload_n 0, 1) := by decide +kernel
theorem dX1_rightOf_1 : decode cX1_rightOf 1 = .ok (.iload_n 1, 1) := by decide +kernel
theorem dX1_rightOf_2 : decode cX1_rightOf 2 = .ok (.aload_n 0, 1) := by decide +kernel
theorem dX1_rightOf_3 : decode cX1_rightOf 3 = .ok (.getfield 17, 3) := by decide +kernel
theorem dX1_rightOf_6 : decode cX1_rightOf 6 = .ok (.invokevirtual 131, 3) := by decide +kernel
theorem dX1_rightOf_9 : decode cX1_rightOf 9 = .ok (.ireturn, 1) := by decide +kernel
set_option maxRecDepth 20000 in
theorem ggX1_weightOf_X1_ofFork : GoodIn wsX1_weightOf wsX1_ofFork := goodIn_r _ [6, 7, 8, 9, 10, 5, 11, 12, 13, 14, 15, 16, 17, 18, 19, 20, 21, 22, 23, 24, 25, 26, 27, 28, 29, 30, 31, 32, 33, 34, 35, 36, 37] (by decide +kernel) (by decide +kernel)
set_option maxRecDepth 20000 in
theorem gX1_weightOf_X1_ofFork : GoodIn wsX1_weightOf (wsV RX1 131 RX1 yX1_ofFork wsX1_ofFork) := goodIn_app (goodIn_of _ (by decide +kernel)) ggX1_weightOf_X1_ofFork
theorem dX1_weightOf_0 : decode cX1_weightOf 0 = .ok (.aload_n 0, 1) := by decide +kernel
theorem dX1_weightOf_1 : decode cX1_weightOf 1 = .ok (.iload_n 1, 1) := by decide +kernel
theorem dX1_weightOf_2 : decode cX1_weightOf 2 = .ok (.aload_n 0, 1) := by decide +kernel
theorem dX1_weightOf_3 : decode cX1_weightOf 3 = .ok (.getfield 20, 3) := by decide +kernel
theorem dX1_weightOf_6 : decode cX1_weightOf 6 = .ok (.invokevirtual 131, 3) := by decide +kernel
theorem dX1_weightOf_9 : decode cX1_weightOf 9 = .ok (.ireturn, 1) := by decide +kernel
set_option maxRecDepth 20000 in
theorem ggX1_ofStudent_X1_isStudent : GoodIn wsX1_ofStudent wsX1_isStudent := goodIn_r _ [6, 7, 8, 9, 5, 10, 15, 16, 17, 18, 19, 20, 21, 22, 23, 24, 25, 26, 27] (by decide +kernel) (by decide +kernel)
set_option maxRecDepth 20000 in
theorem gX1_ofStudent_X1_isStudent : GoodIn wsX1_ofStudent (wsV RX1 109 RX1 yX1_isStudent wsX1_isStudent) := goodIn_app (goodIn_of _ (by decide +kernel)) ggX1_ofStudent_X1_isStudent
set_option maxRecDepth 20000 in
theorem ggX1_ofStudent_X1_no : GoodIn wsX1_ofStudent wsX1_no := goodIn_r _ [14, 1, 15, 16, 17, 18, 19, 20, 21, 22, 23, 24, 25, 26, 27] (by decide +kernel) (by decide +kernel)
set_option maxRecDepth 20000 in
theorem gX1_ofStudent_X1_no : GoodIn wsX1_ofStudent (wsV RX1 96 RX1 yX1_no wsX1_no) := goodIn_app (goodIn_of _ (by decide +kernel)) ggX1_ofStudent_X1_no
theorem dX1_ofStudent_0 : decode cX1_ofStudent 0 = .ok (.aload_n 0, 1) := by decide +kernel
theorem dX1_ofStudent_1 : decode cX1_ofStudent 1 = .ok (.iconst 0, 1) := by decide +kernel
theorem dX1_ofStudent_2 : decode cX1_ofStudent 2 = .ok (.putfield 42, 3) := by decide +kernel
theorem dX1_ofStudent_5 : decode cX1_ofStudent 5 = .ok (.aload_n 0, 1) := by decide +kernel
theorem dX1_ofStudent_6 : decode cX1_ofStudent 6 = .ok (.iload_n 1, 1) := by decide +kernel
theorem dX1_ofStudent_7 : decode cX1_ofStudent 7 = .ok (.invokevirtual 109, 3) := by decide +kernel
theorem dX1_ofStudent_10 : decode cX1_ofStudent 10 = .ok (.ifCond .eq 9, 3) := by decide +kernel
theorem dX1_ofStudent_13 : decode cX1_ofStudent 13 = .ok (.aload_n 2, 1) := by decide +kernel
theorem dX1_ofStudent_14 : decode cX1_ofStudent 14 = .ok (.iload_n 1, 1) := by decide +kernel
theorem dX1_ofStudent_15 : decode cX1_ofStudent 15 = .ok (.iaload, 1) := by decide +kernel
theorem dX1_ofStudent_16 : decode cX1_ofStudent 16 = .ok (.goto 8, 3) := by decide +kernel
theorem dX1_ofStudent_19 : decode cX1_ofStudent 19 = .ok (.aload_n 0, 1) := by decide +kernel
theorem dX1_ofStudent_20 : decode cX1_ofStudent 20 = .ok (.iconst 1, 1) := by decide +kernel
theorem dX1_ofStudent_21 : decode cX1_ofStudent 21 = .ok (.invokevirtual 96, 3) := by decide +kernel
theorem dX1_ofStudent_24 : decode cX1_ofStudent 24 = .ok (.ireturn, 1) := by decide +kernel
set_option maxRecDepth 20000 in
theorem ggX1_placeOf_X1_ofStudent : GoodIn wsX1_placeOf wsX1_ofStudent := goodIn_r _ [6, 7, 8, 9, 10, 5, 11, 12, 13, 14, 15, 16, 17, 18, 19, 20, 21, 22, 23, 24, 25, 26, 27, 28, 29, 30, 31, 32] (by decide +kernel) (by decide +kernel)
set_option maxRecDepth 20000 in
theorem gX1_placeOf_X1_ofStudent : GoodIn wsX1_placeOf (wsV RX1 135 RX1 yX1_ofStudent wsX1_ofStudent) := goodIn_app (goodIn_of _ (by decide +kernel)) ggX1_placeOf_X1_ofStudent
theorem dX1_placeOf_0 : decode cX1_placeOf 0 = .ok (.aload_n 0, 1) := by decide +kernel
theorem dX1_placeOf_1 : decode cX1_placeOf 1 = .ok (.iload_n 1, 1) := by decide +kernel
theorem dX1_placeOf_2 : decode cX1_placeOf 2 = .ok (.aload_n 0, 1) := by decide +kernel
theorem dX1_placeOf_3 : decode cX1_placeOf 3 = .ok (.getfield 33, 3) := by decide +kernel
theorem dX1_placeOf_6 : decode cX1_placeOf 6 = .ok (.invokevirtual 135, 3) := by decide +kernel
theorem dX1_placeOf_9 : decode cX1_placeOf 9 = .ok (.ireturn, 1) := by decide +kernel
set_option maxRecDepth 20000 in
theorem ggX1_passedBy_X1_ofStudent : GoodIn wsX1_passedBy wsX1_ofStudent := goodIn_r _ [6, 7, 8, 9, 10, 5, 11, 12, 13, 14, 15, 16, 17, 18, 19, 20, 21, 22, 23, 24, 25, 26, 27, 28, 29, 30, 31, 32] (by decide +kernel) (by decide +kernel)
set_option maxRecDepth 20000 in
theorem gX1_passedBy_X1_ofStudent : GoodIn wsX1_passedBy (wsV RX1 135 RX1 yX1_ofStudent wsX1_ofStudent) := goodIn_app (goodIn_of _ (by decide +kernel)) ggX1_passedBy_X1_ofStudent
theorem dX1_passedBy_0 : decode cX1_passedBy 0 = .ok (.aload_n 0, 1) := by decide +kernel
theorem dX1_passedBy_1 : decode cX1_passedBy 1 = .ok (.iload_n 1, 1) := by decide +kernel
theorem dX1_passedBy_2 : decode cX1_passedBy 2 = .ok (.aload_n 0, 1) := by decide +kernel
theorem dX1_passedBy_3 : decode cX1_passedBy 3 = .ok (.getfield 36, 3) := by decide +kernel
theorem dX1_passedBy_6 : decode cX1_passedBy 6 = .ok (.invokevirtual 135, 3) := by decide +kernel
theorem dX1_passedBy_9 : decode cX1_passedBy 9 = .ok (.ireturn, 1) := by decide +kernel
set_option maxRecDepth 20000 in
theorem ggX1_ofPlace_X1_table : GoodIn wsX1_ofPlace wsX1_table := goodIn_r _ [6, 7, 8, 9, 10, 11, 12, 13, 14, 15, 16, 17, 29, 30, 31, 32, 33, 34, 35, 36, 37, 38, 39, 40, 41] (by decide +kernel) (by decide +kernel)
set_option maxRecDepth 20000 in
theorem gX1_ofPlace_X1_table : GoodIn wsX1_ofPlace (wsV RX1 116 RX1 yX1_table wsX1_table) := goodIn_app (goodIn_of _ (by decide +kernel)) ggX1_ofPlace_X1_table
set_option maxRecDepth 20000 in
theorem ggX1_ofPlace_X1_isPlace : GoodIn wsX1_ofPlace wsX1_isPlace := goodIn_r _ [21, 7, 22, 23, 5, 24, 29, 30, 31, 32, 33, 34, 35, 36, 37, 38, 39, 40, 41] (by decide +kernel) (by decide +kernel)
set_option maxRecDepth 20000 in
theorem gX1_ofPlace_X1_isPlace : GoodIn wsX1_ofPlace (wsV RX1 53 RX1 yX1_isPlace wsX1_isPlace) := goodIn_app (goodIn_of _ (by decide +kernel)) ggX1_ofPlace_X1_isPlace
set_option maxRecDepth 20000 in
theorem ggX1_ofPlace_X1_no : GoodIn wsX1_ofPlace wsX1_no := goodIn_r _ [28, 1, 29, 30, 31, 32, 33, 34, 35, 36, 37, 38, 39, 40, 41] (by decide +kernel) (by decide +kernel)
set_option maxRecDepth 20000 in
theorem gX1_ofPlace_X1_no : GoodIn wsX1_ofPlace (wsV RX1 96 RX1 yX1_no wsX1_no) := goodIn_app (goodIn_of _ (by decide +kernel)) ggX1_ofPlace_X1_no
theorem dX1_ofPlace_0 : decode cX1_ofPlace 0 = .ok (.aload_n 0, 1) := by decide +kernel
theorem dX1_ofPlace_1 : decode cX1_ofPlace 1 = .ok (.iconst 0, 1) := by decide +kernel
theorem dX1_ofPlace_2 : decode cX1_ofPlace 2 = .ok (.putfield 42, 3) := by decide +kernel
theorem dX1_ofPlace_5 : decode cX1_ofPlace 5 = .ok (.aload_n 0, 1) := by decide +kernel
theorem dX1_ofPlace_6 : decode cX1_ofPlace 6 = .ok (.invokevirtual 116, 3) := by decide +kernel
theorem dX1_ofPlace_9 : decode cX1_ofPlace 9 = .ok (.aload_n 0, 1) := by decide +kernel
theorem dX1_ofPlace_10 : decode cX1_ofPlace 10 = .ok (.iload_n 1, 1) := by decide +kernel
theorem dX1_ofPlace_11 : decode cX1_ofPlace 11 = .ok (.invokevirtual 53, 3) := by decide +kernel
theorem dX1_ofPlace_14 : decode cX1_ofPlace 14 = .ok (.ifCond .eq 9, 3) := by decide +kernel
theorem dX1_ofPlace_17 : decode cX1_ofPlace 17 = .ok (.aload_n 2, 1) := by decide +kernel
theorem dX1_ofPlace_18 : decode cX1_ofPlace 18 = .ok (.iload_n 1, 1) := by decide +kernel
theorem dX1_ofPlace_19 : decode cX1_ofPlace 19 = .ok (.iaload, 1) := by decide +kernel
theorem dX1_ofPlace_20 : decode cX1_ofPlace 20 = .ok (.goto 8, 3) := by decide +kernel
theorem dX1_ofPlace_23 : decode cX1_ofPlace 23 = .ok (.aload_n 0, 1) := by decide +kernel
theorem dX1_ofPlace_24 : decode cX1_ofPlace 24 = .ok (.iconst 1, 1) := by decide +kernel
theorem dX1_ofPlace_25 : decode cX1_ofPlace 25 = .ok (.invokevirtual 96, 3) := by decide +kernel
theorem dX1_ofPlace_28 : decode cX1_ofPlace 28 = .ok (.ireturn, 1) := by decide +kernel
set_option maxRecDepth 20000 in
theorem ggX1_sureGrade_X1_ofPlace : GoodIn wsX1_sureGrade wsX1_ofPlace := goodIn_r _ [6, 7, 8, 9, 10, 5, 11, 12, 13, 14, 1, 15, 16, 17, 18, 19, 20, 21, 22, 23, 24, 25, 26, 27, 28, 29, 30, 31, 32, 33, 34, 35, 36, 37, 38, 39, 40, 41, 42, 43, 44, 45] (by decide +kernel) (by decide +kernel)
set_option maxRecDepth 20000 in
theorem gX1_sureGrade_X1_ofPlace : GoodIn wsX1_sureGrade (wsV RX1 138 RX1 yX1_ofPlace wsX1_ofPlace) := goodIn_app (goodIn_of _ (by decide +kernel)) ggX1_sureGrade_X1_ofPlace
theorem dX1_sureGrade_0 : decode cX1_sureGrade 0 = .ok (.aload_n 0, 1) := by decide +kernel
theorem dX1_sureGrade_1 : decode cX1_sureGrade 1 = .ok (.iload_n 1, 1) := by decide +kernel
theorem dX1_sureGrade_2 : decode cX1_sureGrade 2 = .ok (.aload_n 0, 1) := by decide +kernel
theorem dX1_sureGrade_3 : decode cX1_sureGrade 3 = .ok (.getfield 27, 3) := by decide +kernel
theorem dX1_sureGrade_6 : decode cX1_sureGrade 6 = .ok (.invokevirtual 138, 3) := by decide +kernel
theorem dX1_sureGrade_9 : decode cX1_sureGrade 9 = .ok (.ireturn, 1) := by decide +kernel
set_option maxRecDepth 20000 in
theorem ggX1_hope_X1_ofPlace : GoodIn wsX1_hope wsX1_ofPlace := goodIn_r _ [6, 7, 8, 9, 10, 5, 11, 12, 13, 14, 15, 16, 17, 18, 19, 20, 21, 1, 22, 23, 24, 25, 26, 27, 28, 29, 30, 31, 32, 33, 34, 35, 36, 37, 38, 39, 40, 41, 42, 43, 44, 45] (by decide +kernel) (by decide +kernel)
set_option maxRecDepth 20000 in
theorem gX1_hope_X1_ofPlace : GoodIn wsX1_hope (wsV RX1 138 RX1 yX1_ofPlace wsX1_ofPlace) := goodIn_app (goodIn_of _ (by decide +kernel)) ggX1_hope_X1_ofPlace
theorem dX1_hope_0 : decode cX1_hope 0 = .ok (.aload_n 0, 1) := by decide +kernel
theorem dX1_hope_1 : decode cX1_hope 1 = .ok (.iload_n 1, 1) := by decide +kernel
theorem dX1_hope_2 : decode cX1_hope 2 = .ok (.aload_n 0, 1) := by decide +kernel
theorem dX1_hope_3 : decode cX1_hope 3 = .ok (.getfield 30, 3) := by decide +kernel
theorem dX1_hope_6 : decode cX1_hope 6 = .ok (.invokevirtual 138, 3) := by decide +kernel
theorem dX1_hope_9 : decode cX1_hope 9 = .ok (.ireturn, 1) := by decide +kernel
set_option maxRecDepth 20000 in
theorem ggX1_reaches_X1_isPlace : GoodIn wsX1_reaches wsX1_isPlace := goodIn_r _ [6, 7, 8, 9, 5, 10, 20, 21, 22, 23, 24, 25, 26, 27, 28, 29, 30, 31, 32] (by decide +kernel) (by decide +kernel)
set_option maxRecDepth 20000 in
theorem gX1_reaches_X1_isPlace : GoodIn wsX1_reaches (wsV RX1 53 RX1 yX1_isPlace wsX1_isPlace) := goodIn_app (goodIn_of _ (by decide +kernel)) ggX1_reaches_X1_isPlace
set_option maxRecDepth 20000 in
theorem ggX1_reaches_X1_has : GoodIn wsX1_reaches wsX1_has := goodIn_r _ [14, 15, 20, 21, 22, 23, 24, 25, 26, 27, 28, 29, 30, 31, 32] (by decide +kernel) (by decide +kernel)
set_option maxRecDepth 20000 in
theorem gX1_reaches_X1_has : GoodIn wsX1_reaches (wsV RX1 77 RX1 yX1_has wsX1_has) := goodIn_app (goodIn_of _ (by decide +kernel)) ggX1_reaches_X1_has
set_option maxRecDepth 20000 in
theorem ggX1_reaches_X1_isNot : GoodIn wsX1_reaches wsX1_isNot := goodIn_r _ [19, 1, 20, 21, 22, 23, 24, 25, 26, 27, 28, 29, 30, 31, 32] (by decide +kernel) (by decide +kernel)
set_option maxRecDepth 20000 in
theorem gX1_reaches_X1_isNot : GoodIn wsX1_reaches (wsV RX1 128 RX1 yX1_isNot wsX1_isNot) := goodIn_app (goodIn_of _ (by decide +kernel)) ggX1_reaches_X1_isNot
theorem dX1_reaches_0 : decode cX1_reaches 0 = .ok (.aload_n 0, 1) := by decide +kernel
theorem dX1_reaches_1 : decode cX1_reaches 1 = .ok (.iconst 0, 1) := by decide +kernel
theorem dX1_reaches_2 : decode cX1_reaches 2 = .ok (.putfield 42, 3) := by decide +kernel
theorem dX1_reaches_5 : decode cX1_reaches 5 = .ok (.aload_n 0, 1) := by decide +kernel
theorem dX1_reaches_6 : decode cX1_reaches 6 = .ok (.iload_n 1, 1) := by decide +kernel
theorem dX1_reaches_7 : decode cX1_reaches 7 = .ok (.invokevirtual 53, 3) := by decide +kernel
theorem dX1_reaches_10 : decode cX1_reaches 10 = .ok (.ifCond .eq 20, 3) := by decide +kernel
theorem dX1_reaches_13 : decode cX1_reaches 13 = .ok (.aload_n 0, 1) := by decide +kernel
theorem dX1_reaches_14 : decode cX1_reaches 14 = .ok (.iload_n 2, 1) := by decide +kernel
theorem dX1_reaches_15 : decode cX1_reaches 15 = .ok (.invokevirtual 53, 3) := by decide +kernel
theorem dX1_reaches_18 : decode cX1_reaches 18 = .ok (.ifCond .eq 12, 3) := by decide +kernel
theorem dX1_reaches_21 : decode cX1_reaches 21 = .ok (.aload_n 0, 1) := by decide +kernel
theorem dX1_reaches_22 : decode cX1_reaches 22 = .ok (.iload_n 1, 1) := by decide +kernel
theorem dX1_reaches_23 : decode cX1_reaches 23 = .ok (.iload_n 2, 1) := by decide +kernel
theorem dX1_reaches_24 : decode cX1_reaches 24 = .ok (.invokevirtual 77, 3) := by decide +kernel
theorem dX1_reaches_27 : decode cX1_reaches 27 = .ok (.goto 8, 3) := by decide +kernel
theorem dX1_reaches_30 : decode cX1_reaches 30 = .ok (.aload_n 0, 1) := by decide +kernel
theorem dX1_reaches_31 : decode cX1_reaches 31 = .ok (.iconst 1, 1) := by decide +kernel
theorem dX1_reaches_32 : decode cX1_reaches 32 = .ok (.invokevirtual 128, 3) := by decide +kernel
theorem dX1_reaches_35 : decode cX1_reaches 35 = .ok (.ireturn, 1) := by decide +kernel
set_option maxRecDepth 20000 in
theorem ggX1_examsFrom_X1_isPlace : GoodIn wsX1_examsFrom wsX1_isPlace := goodIn_r _ [6, 7, 8, 9, 5, 10, 25, 26, 27, 28, 29, 30, 31, 32, 33, 34, 35, 36, 37] (by decide +kernel) (by decide +kernel)
set_option maxRecDepth 20000 in
theorem gX1_examsFrom_X1_isPlace : GoodIn wsX1_examsFrom (wsV RX1 53 RX1 yX1_isPlace wsX1_isPlace) := goodIn_app (goodIn_of _ (by decide +kernel)) ggX1_examsFrom_X1_isPlace
set_option maxRecDepth 20000 in
theorem ggX1_examsFrom_X1_examsOf : GoodIn wsX1_examsFrom wsX1_examsOf := goodIn_r _ [14, 15, 16, 17, 18, 5, 19, 20, 25, 26, 27, 28, 29, 30, 31, 32, 33, 34, 35, 36, 37] (by decide +kernel) (by decide +kernel)
set_option maxRecDepth 20000 in
theorem gX1_examsFrom_X1_examsOf : GoodIn wsX1_examsFrom (wsV RX1 141 RX1 yX1_examsOf wsX1_examsOf) := goodIn_app (goodIn_of _ (by decide +kernel)) ggX1_examsFrom_X1_examsOf
set_option maxRecDepth 20000 in
theorem ggX1_examsFrom_X1_no : GoodIn wsX1_examsFrom wsX1_no := goodIn_r _ [24, 1, 25, 26, 27, 28, 29, 30, 31, 32, 33, 34, 35, 36, 37] (by decide +kernel) (by decide +kernel)
set_option maxRecDepth 20000 in
theorem gX1_examsFrom_X1_no : GoodIn wsX1_examsFrom (wsV RX1 96 RX1 yX1_no wsX1_no) := goodIn_app (goodIn_of _ (by decide +kernel)) ggX1_examsFrom_X1_no
theorem dX1_examsFrom_0 : decode cX1_examsFrom 0 = .ok (.aload_n 0, 1) := by decide +kernel
theorem dX1_examsFrom_1 : decode cX1_examsFrom 1 = .ok (.iconst 0, 1) := by decide +kernel
theorem dX1_examsFrom_2 : decode cX1_examsFrom 2 = .ok (.putfield 42, 3) := by decide +kernel
theorem dX1_examsFrom_5 : decode cX1_examsFrom 5 = .ok (.aload_n 0, 1) := by decide +kernel
theorem dX1_examsFrom_6 : decode cX1_examsFrom 6 = .ok (.iload_n 1, 1) := by decide +kernel
theorem dX1_examsFrom_7 : decode cX1_examsFrom 7 = .ok (.invokevirtual 53, 3) := by decide +kernel
theorem dX1_examsFrom_10 : decode cX1_examsFrom 10 = .ok (.ifCond .eq 11, 3) := by decide +kernel
theorem dX1_examsFrom_13 : decode cX1_examsFrom 13 = .ok (.aload_n 0, 1) := by decide +kernel
theorem dX1_examsFrom_14 : decode cX1_examsFrom 14 = .ok (.iload_n 1, 1) := by decide +kernel
theorem dX1_examsFrom_15 : decode cX1_examsFrom 15 = .ok (.invokevirtual 141, 3) := by decide +kernel
theorem dX1_examsFrom_18 : decode cX1_examsFrom 18 = .ok (.goto 8, 3) := by decide +kernel
theorem dX1_examsFrom_21 : decode cX1_examsFrom 21 = .ok (.aload_n 0, 1) := by decide +kernel
theorem dX1_examsFrom_22 : decode cX1_examsFrom 22 = .ok (.iconst 1, 1) := by decide +kernel
theorem dX1_examsFrom_23 : decode cX1_examsFrom 23 = .ok (.invokevirtual 96, 3) := by decide +kernel
theorem dX1_examsFrom_26 : decode cX1_examsFrom 26 = .ok (.ireturn, 1) := by decide +kernel
set_option maxRecDepth 20000 in
theorem ggX1_risk_X1_table : GoodIn wsX1_risk wsX1_table := goodIn_r _ [6, 7, 8, 9, 10, 11, 12, 13, 14, 15, 16, 17, 37, 38, 39, 40, 41, 42, 43, 44, 45, 46, 47, 48, 49] (by decide +kernel) (by decide +kernel)
set_option maxRecDepth 20000 in
theorem gX1_risk_X1_table : GoodIn wsX1_risk (wsV RX1 116 RX1 yX1_table wsX1_table) := goodIn_app (goodIn_of _ (by decide +kernel)) ggX1_risk_X1_table
set_option maxRecDepth 20000 in
theorem ggX1_risk_X1_isForkAt : GoodIn wsX1_risk wsX1_isForkAt := goodIn_r _ [21, 8, 22, 23, 24, 5, 25, 7, 26, 27, 28, 37, 38, 39, 40, 41, 42, 43, 44, 45, 46, 47, 48, 49] (by decide +kernel) (by decide +kernel)
set_option maxRecDepth 20000 in
theorem gX1_risk_X1_isForkAt : GoodIn wsX1_risk (wsV RX1 106 RX1 yX1_isForkAt wsX1_isForkAt) := goodIn_app (goodIn_of _ (by decide +kernel)) ggX1_risk_X1_isForkAt
set_option maxRecDepth 20000 in
theorem ggX1_risk_X1_riskOf : GoodIn wsX1_risk wsX1_riskOf := goodIn_r _ [32, 12, 11, 17, 10, 13, 14, 15, 16, 9, 37, 38, 39, 40, 41, 42, 43, 44, 45, 46, 47, 48, 49] (by decide +kernel) (by decide +kernel)
set_option maxRecDepth 20000 in
theorem gX1_risk_X1_riskOf : GoodIn wsX1_risk (wsV RX1 66 RX1 yX1_riskOf wsX1_riskOf) := goodIn_app (goodIn_of _ (by decide +kernel)) ggX1_risk_X1_riskOf
set_option maxRecDepth 20000 in
theorem ggX1_risk_X1_no : GoodIn wsX1_risk wsX1_no := goodIn_r _ [36, 1, 37, 38, 39, 40, 41, 42, 43, 44, 45, 46, 47, 48, 49] (by decide +kernel) (by decide +kernel)
set_option maxRecDepth 20000 in
theorem gX1_risk_X1_no : GoodIn wsX1_risk (wsV RX1 96 RX1 yX1_no wsX1_no) := goodIn_app (goodIn_of _ (by decide +kernel)) ggX1_risk_X1_no
theorem dX1_risk_0 : decode cX1_risk 0 = .ok (.aload_n 0, 1) := by decide +kernel
theorem dX1_risk_1 : decode cX1_risk 1 = .ok (.iconst 0, 1) := by decide +kernel
theorem dX1_risk_2 : decode cX1_risk 2 = .ok (.putfield 42, 3) := by decide +kernel
theorem dX1_risk_5 : decode cX1_risk 5 = .ok (.aload_n 0, 1) := by decide +kernel
theorem dX1_risk_6 : decode cX1_risk 6 = .ok (.invokevirtual 116, 3) := by decide +kernel
theorem dX1_risk_9 : decode cX1_risk 9 = .ok (.aload_n 0, 1) := by decide +kernel
theorem dX1_risk_10 : decode cX1_risk 10 = .ok (.iload_n 1, 1) := by decide +kernel
theorem dX1_risk_11 : decode cX1_risk 11 = .ok (.invokevirtual 106, 3) := by decide +kernel
theorem dX1_risk_14 : decode cX1_risk 14 = .ok (.ifCond .eq 12, 3) := by decide +kernel
theorem dX1_risk_17 : decode cX1_risk 17 = .ok (.aload_n 0, 1) := by decide +kernel
theorem dX1_risk_18 : decode cX1_risk 18 = .ok (.iload_n 1, 1) := by decide +kernel
theorem dX1_risk_19 : decode cX1_risk 19 = .ok (.iload_n 2, 1) := by decide +kernel
theorem dX1_risk_20 : decode cX1_risk 20 = .ok (.invokevirtual 66, 3) := by decide +kernel
theorem dX1_risk_23 : decode cX1_risk 23 = .ok (.goto 8, 3) := by decide +kernel
theorem dX1_risk_26 : decode cX1_risk 26 = .ok (.aload_n 0, 1) := by decide +kernel
theorem dX1_risk_27 : decode cX1_risk 27 = .ok (.iconst 1, 1) := by decide +kernel
theorem dX1_risk_28 : decode cX1_risk 28 = .ok (.invokevirtual 96, 3) := by decide +kernel
theorem dX1_risk_31 : decode cX1_risk 31 = .ok (.ireturn, 1) := by decide +kernel
set_option maxRecDepth 20000 in
theorem ggX1_planTurnsRight_X1_table : GoodIn wsX1_planTurnsRight wsX1_table := goodIn_r _ [6, 7, 8, 9, 10, 11, 12, 13, 14, 15, 16, 17, 41, 42, 43, 44, 45, 46, 47, 48, 49, 50, 51, 52, 53] (by decide +kernel) (by decide +kernel)
set_option maxRecDepth 20000 in
theorem gX1_planTurnsRight_X1_table : GoodIn wsX1_planTurnsRight (wsV RX1 116 RX1 yX1_table wsX1_table) := goodIn_app (goodIn_of _ (by decide +kernel)) ggX1_planTurnsRight_X1_table
set_option maxRecDepth 20000 in
theorem ggX1_planTurnsRight_X1_isForkAt : GoodIn wsX1_planTurnsRight wsX1_isForkAt := goodIn_r _ [21, 8, 22, 23, 24, 5, 25, 7, 26, 27, 28, 41, 42, 43, 44, 45, 46, 47, 48, 49, 50, 51, 52, 53] (by decide +kernel) (by decide +kernel)
set_option maxRecDepth 20000 in
theorem gX1_planTurnsRight_X1_isForkAt : GoodIn wsX1_planTurnsRight (wsV RX1 106 RX1 yX1_isForkAt wsX1_isForkAt) := goodIn_app (goodIn_of _ (by decide +kernel)) ggX1_planTurnsRight_X1_isForkAt
set_option maxRecDepth 20000 in
theorem ggX1_planTurnsRight_X1_turnsRight : GoodIn wsX1_planTurnsRight wsX1_turnsRight := goodIn_r _ [32, 33, 34, 35, 5, 36, 12, 11, 17, 10, 13, 14, 15, 16, 9, 41, 42, 43, 44, 45, 46, 47, 48, 49, 50, 51, 52, 53] (by decide +kernel) (by decide +kernel)
set_option maxRecDepth 20000 in
theorem gX1_planTurnsRight_X1_turnsRight : GoodIn wsX1_planTurnsRight (wsV RX1 70 RX1 yX1_turnsRight wsX1_turnsRight) := goodIn_app (goodIn_of _ (by decide +kernel)) ggX1_planTurnsRight_X1_turnsRight
set_option maxRecDepth 20000 in
theorem ggX1_planTurnsRight_X1_isNot : GoodIn wsX1_planTurnsRight wsX1_isNot := goodIn_r _ [40, 1, 41, 42, 43, 44, 45, 46, 47, 48, 49, 50, 51, 52, 53] (by decide +kernel) (by decide +kernel)
set_option maxRecDepth 20000 in
theorem gX1_planTurnsRight_X1_isNot : GoodIn wsX1_planTurnsRight (wsV RX1 128 RX1 yX1_isNot wsX1_isNot) := goodIn_app (goodIn_of _ (by decide +kernel)) ggX1_planTurnsRight_X1_isNot
theorem dX1_planTurnsRight_0 : decode cX1_planTurnsRight 0 = .ok (.aload_n 0, 1) := by decide +kernel
theorem dX1_planTurnsRight_1 : decode cX1_planTurnsRight 1 = .ok (.iconst 0, 1) := by decide +kernel
theorem dX1_planTurnsRight_2 : decode cX1_planTurnsRight 2 = .ok (.putfield 42, 3) := by decide +kernel
theorem dX1_planTurnsRight_5 : decode cX1_planTurnsRight 5 = .ok (.aload_n 0, 1) := by decide +kernel
theorem dX1_planTurnsRight_6 : decode cX1_planTurnsRight 6 = .ok (.invokevirtual 116, 3) := by decide +kernel
theorem dX1_planTurnsRight_9 : decode cX1_planTurnsRight 9 = .ok (.aload_n 0, 1) := by decide +kernel
theorem dX1_planTurnsRight_10 : decode cX1_planTurnsRight 10 = .ok (.iload_n 1, 1) := by decide +kernel
theorem dX1_planTurnsRight_11 : decode cX1_planTurnsRight 11 = .ok (.invokevirtual 106, 3) := by decide +kernel
theorem dX1_planTurnsRight_14 : decode cX1_planTurnsRight 14 = .ok (.ifCond .eq 11, 3) := by decide +kernel
theorem dX1_planTurnsRight_17 : decode cX1_planTurnsRight 17 = .ok (.aload_n 0, 1) := by decide +kernel
theorem dX1_planTurnsRight_18 : decode cX1_planTurnsRight 18 = .ok (.iload_n 1, 1) := by decide +kernel
theorem dX1_planTurnsRight_19 : decode cX1_planTurnsRight 19 = .ok (.invokevirtual 70, 3) := by decide +kernel
theorem dX1_planTurnsRight_22 : decode cX1_planTurnsRight 22 = .ok (.goto 8, 3) := by decide +kernel
theorem dX1_planTurnsRight_25 : decode cX1_planTurnsRight 25 = .ok (.aload_n 0, 1) := by decide +kernel
theorem dX1_planTurnsRight_26 : decode cX1_planTurnsRight 26 = .ok (.iconst 1, 1) := by decide +kernel
theorem dX1_planTurnsRight_27 : decode cX1_planTurnsRight 27 = .ok (.invokevirtual 128, 3) := by decide +kernel
theorem dX1_planTurnsRight_30 : decode cX1_planTurnsRight 30 = .ok (.ireturn, 1) := by decide +kernel
set_option maxRecDepth 20000 in
theorem ggX1_planLeadsTo_X1_table : GoodIn wsX1_planLeadsTo wsX1_table := goodIn_r _ [6, 7, 8, 9, 10, 11, 12, 13, 14, 15, 16, 17, 45, 46, 47, 48, 49, 50, 51, 52, 53, 54, 55, 56, 57] (by decide +kernel) (by decide +kernel)
set_option maxRecDepth 20000 in
theorem gX1_planLeadsTo_X1_table : GoodIn wsX1_planLeadsTo (wsV RX1 116 RX1 yX1_table wsX1_table) := goodIn_app (goodIn_of _ (by decide +kernel)) ggX1_planLeadsTo_X1_table
set_option maxRecDepth 20000 in
theorem ggX1_planLeadsTo_X1_isPlace : GoodIn wsX1_planLeadsTo wsX1_isPlace := goodIn_r _ [21, 7, 22, 23, 5, 24, 45, 46, 47, 48, 49, 50, 51, 52, 53, 54, 55, 56, 57] (by decide +kernel) (by decide +kernel)
set_option maxRecDepth 20000 in
theorem gX1_planLeadsTo_X1_isPlace : GoodIn wsX1_planLeadsTo (wsV RX1 53 RX1 yX1_isPlace wsX1_isPlace) := goodIn_app (goodIn_of _ (by decide +kernel)) ggX1_planLeadsTo_X1_isPlace
set_option maxRecDepth 20000 in
theorem ggX1_planLeadsTo_X1_leads : GoodIn wsX1_planLeadsTo wsX1_leads := goodIn_r _ [28, 8, 29, 30, 31, 5, 32, 12, 11, 33, 34, 35, 36, 37, 38, 39, 40, 17, 10, 13, 14, 15, 16, 9, 45, 46, 47, 48, 49, 50, 51, 52, 53, 54, 55, 56, 57] (by decide +kernel) (by decide +kernel)
set_option maxRecDepth 20000 in
theorem gX1_planLeadsTo_X1_leads : GoodIn wsX1_planLeadsTo (wsV RX1 144 RX1 yX1_leads wsX1_leads) := goodIn_app (goodIn_of _ (by decide +kernel)) ggX1_planLeadsTo_X1_leads
set_option maxRecDepth 20000 in
theorem ggX1_planLeadsTo_X1_no : GoodIn wsX1_planLeadsTo wsX1_no := goodIn_r _ [44, 1, 45, 46, 47, 48, 49, 50, 51, 52, 53, 54, 55, 56, 57] (by decide +kernel) (by decide +kernel)
set_option maxRecDepth 20000 in
theorem gX1_planLeadsTo_X1_no : GoodIn wsX1_planLeadsTo (wsV RX1 96 RX1 yX1_no wsX1_no) := goodIn_app (goodIn_of _ (by decide +kernel)) ggX1_planLeadsTo_X1_no
theorem dX1_planLeadsTo_0 : decode cX1_planLeadsTo 0 = .ok (.aload_n 0, 1) := by decide +kernel
theorem dX1_planLeadsTo_1 : decode cX1_planLeadsTo 1 = .ok (.iconst 0, 1) := by decide +kernel
theorem dX1_planLeadsTo_2 : decode cX1_planLeadsTo 2 = .ok (.putfield 42, 3) := by decide +kernel
theorem dX1_planLeadsTo_5 : decode cX1_planLeadsTo 5 = .ok (.aload_n 0, 1) := by decide +kernel
theorem dX1_planLeadsTo_6 : decode cX1_planLeadsTo 6 = .ok (.invokevirtual 116, 3) := by decide +kernel
theorem dX1_planLeadsTo_9 : decode cX1_planLeadsTo 9 = .ok (.aload_n 0, 1) := by decide +kernel
theorem dX1_planLeadsTo_10 : decode cX1_planLeadsTo 10 = .ok (.iload_n 1, 1) := by decide +kernel
theorem dX1_planLeadsTo_11 : decode cX1_planLeadsTo 11 = .ok (.invokevirtual 53, 3) := by decide +kernel
theorem dX1_planLeadsTo_14 : decode cX1_planLeadsTo 14 = .ok (.ifCond .eq 11, 3) := by decide +kernel
theorem dX1_planLeadsTo_17 : decode cX1_planLeadsTo 17 = .ok (.aload_n 0, 1) := by decide +kernel
theorem dX1_planLeadsTo_18 : decode cX1_planLeadsTo 18 = .ok (.iload_n 1, 1) := by decide +kernel
theorem dX1_planLeadsTo_19 : decode cX1_planLeadsTo 19 = .ok (.invokevirtual 144, 3) := by decide +kernel
theorem dX1_planLeadsTo_22 : decode cX1_planLeadsTo 22 = .ok (.goto 8, 3) := by decide +kernel
theorem dX1_planLeadsTo_25 : decode cX1_planLeadsTo 25 = .ok (.aload_n 0, 1) := by decide +kernel
theorem dX1_planLeadsTo_26 : decode cX1_planLeadsTo 26 = .ok (.iconst 1, 1) := by decide +kernel
theorem dX1_planLeadsTo_27 : decode cX1_planLeadsTo 27 = .ok (.invokevirtual 96, 3) := by decide +kernel
theorem dX1_planLeadsTo_30 : decode cX1_planLeadsTo 30 = .ok (.ireturn, 1) := by decide +kernel
set_option maxRecDepth 20000 in
theorem ggX1_riskiestFork_X1_table : GoodIn wsX1_riskiestFork wsX1_table := goodIn_r _ [5, 6, 7, 8, 9, 10, 11, 12, 13, 14, 15, 16, 33, 34, 35, 36, 37, 38, 39, 40, 41, 42, 43, 44, 45] (by decide +kernel) (by decide +kernel)
set_option maxRecDepth 20000 in
theorem gX1_riskiestFork_X1_table : GoodIn wsX1_riskiestFork (wsV RX1 116 RX1 yX1_table wsX1_table) := goodIn_app (goodIn_of _ (by decide +kernel)) ggX1_riskiestFork_X1_table
set_option maxRecDepth 20000 in
theorem ggX1_riskiestFork_X1_riskiest : GoodIn wsX1_riskiestFork wsX1_riskiest := goodIn_r _ [20, 6, 7, 21, 22, 14, 23, 24, 25, 26, 4, 27, 11, 10, 16, 9, 12, 13, 15, 8, 33, 34, 35, 36, 37, 38, 39, 40, 41, 42, 43, 44, 45] (by decide +kernel) (by decide +kernel)
set_option maxRecDepth 20000 in
theorem gX1_riskiestFork_X1_riskiest : GoodIn wsX1_riskiestFork (wsV RX1 147 RX1 yX1_riskiest wsX1_riskiest) := goodIn_app (goodIn_of _ (by decide +kernel)) ggX1_riskiestFork_X1_riskiest
set_option maxRecDepth 20000 in
theorem ggX1_riskiestFork_X1_ok : GoodIn wsX1_riskiestFork wsX1_ok := goodIn_r _ [31, 32, 33, 34, 35, 36, 37, 38, 39, 40, 41, 42, 43, 44, 45] (by decide +kernel) (by decide +kernel)
set_option maxRecDepth 20000 in
theorem gX1_riskiestFork_X1_ok : GoodIn wsX1_riskiestFork (wsV RX1 119 RX1 yX1_ok wsX1_ok) := goodIn_app (goodIn_of _ (by decide +kernel)) ggX1_riskiestFork_X1_ok
theorem dX1_riskiestFork_0 : decode cX1_riskiestFork 0 = .ok (.aload_n 0, 1) := by decide +kernel
theorem dX1_riskiestFork_1 : decode cX1_riskiestFork 1 = .ok (.invokevirtual 116, 3) := by decide +kernel
theorem dX1_riskiestFork_4 : decode cX1_riskiestFork 4 = .ok (.aload_n 0, 1) := by decide +kernel
theorem dX1_riskiestFork_5 : decode cX1_riskiestFork 5 = .ok (.aload_n 0, 1) := by decide +kernel
theorem dX1_riskiestFork_6 : decode cX1_riskiestFork 6 = .ok (.invokevirtual 147, 3) := by decide +kernel
theorem dX1_riskiestFork_9 : decode cX1_riskiestFork 9 = .ok (.invokevirtual 119, 3) := by decide +kernel
theorem dX1_riskiestFork_12 : decode cX1_riskiestFork 12 = .ok (.ireturn, 1) := by decide +kernel
set_option maxRecDepth 20000 in
theorem ggX1_hindsight_X1_isForkAt : GoodIn wsX1_hindsight wsX1_isForkAt := goodIn_r _ [6, 7, 8, 9, 10, 5, 11, 12, 13, 14, 15, 34, 35, 36, 37, 38, 39, 40, 41, 42, 43, 44, 45, 46] (by decide +kernel) (by decide +kernel)
set_option maxRecDepth 20000 in
theorem gX1_hindsight_X1_isForkAt : GoodIn wsX1_hindsight (wsV RX1 106 RX1 yX1_isForkAt wsX1_isForkAt) := goodIn_app (goodIn_of _ (by decide +kernel)) ggX1_hindsight_X1_isForkAt
set_option maxRecDepth 20000 in
theorem ggX1_hindsight_X1_behind : GoodIn wsX1_hindsight wsX1_behind := goodIn_r _ [19, 7, 20, 21, 22, 23, 24, 25, 26, 27, 5, 28, 29, 34, 35, 36, 37, 38, 39, 40, 41, 42, 43, 44, 45, 46] (by decide +kernel) (by decide +kernel)
set_option maxRecDepth 20000 in
theorem gX1_hindsight_X1_behind : GoodIn wsX1_hindsight (wsV RX1 84 RX1 yX1_behind wsX1_behind) := goodIn_app (goodIn_of _ (by decide +kernel)) ggX1_hindsight_X1_behind
set_option maxRecDepth 20000 in
theorem ggX1_hindsight_X1_no : GoodIn wsX1_hindsight wsX1_no := goodIn_r _ [33, 1, 34, 35, 36, 37, 38, 39, 40, 41, 42, 43, 44, 45, 46] (by decide +kernel) (by decide +kernel)
set_option maxRecDepth 20000 in
theorem gX1_hindsight_X1_no : GoodIn wsX1_hindsight (wsV RX1 96 RX1 yX1_no wsX1_no) := goodIn_app (goodIn_of _ (by decide +kernel)) ggX1_hindsight_X1_no
theorem dX1_hindsight_0 : decode cX1_hindsight 0 = .ok (.aload_n 0, 1) := by decide +kernel
theorem dX1_hindsight_1 : decode cX1_hindsight 1 = .ok (.iconst 0, 1) := by decide +kernel
theorem dX1_hindsight_2 : decode cX1_hindsight 2 = .ok (.putfield 42, 3) := by decide +kernel
theorem dX1_hindsight_5 : decode cX1_hindsight 5 = .ok (.aload_n 0, 1) := by decide +kernel
theorem dX1_hindsight_6 : decode cX1_hindsight 6 = .ok (.iload_n 1, 1) := by decide +kernel
theorem dX1_hindsight_7 : decode cX1_hindsight 7 = .ok (.invokevirtual 106, 3) := by decide +kernel
theorem dX1_hindsight_10 : decode cX1_hindsight 10 = .ok (.ifCond .eq 11, 3) := by decide +kernel
theorem dX1_hindsight_13 : decode cX1_hindsight 13 = .ok (.aload_n 0, 1) := by decide +kernel
theorem dX1_hindsight_14 : decode cX1_hindsight 14 = .ok (.iload_n 1, 1) := by decide +kernel
theorem dX1_hindsight_15 : decode cX1_hindsight 15 = .ok (.invokevirtual 84, 3) := by decide +kernel
theorem dX1_hindsight_18 : decode cX1_hindsight 18 = .ok (.goto 8, 3) := by decide +kernel
theorem dX1_hindsight_21 : decode cX1_hindsight 21 = .ok (.aload_n 0, 1) := by decide +kernel
theorem dX1_hindsight_22 : decode cX1_hindsight 22 = .ok (.iconst 1, 1) := by decide +kernel
theorem dX1_hindsight_23 : decode cX1_hindsight 23 = .ok (.invokevirtual 96, 3) := by decide +kernel
theorem dX1_hindsight_26 : decode cX1_hindsight 26 = .ok (.ireturn, 1) := by decide +kernel
set_option maxRecDepth 20000 in
theorem ggX1_regretOf_X1_isStudent : GoodIn wsX1_regretOf wsX1_isStudent := goodIn_r _ [6, 7, 8, 9, 5, 10, 45, 46, 47, 48, 49, 50, 51, 52, 53, 54, 55, 56, 57] (by decide +kernel) (by decide +kernel)
set_option maxRecDepth 20000 in
theorem gX1_regretOf_X1_isStudent : GoodIn wsX1_regretOf (wsV RX1 109 RX1 yX1_isStudent wsX1_isStudent) := goodIn_app (goodIn_of _ (by decide +kernel)) ggX1_regretOf_X1_isStudent
set_option maxRecDepth 20000 in
theorem ggX1_regretOf_X1_no : GoodIn wsX1_regretOf wsX1_no := goodIn_r _ [14, 1, 45, 46, 47, 48, 49, 50, 51, 52, 53, 54, 55, 56, 57] (by decide +kernel) (by decide +kernel)
set_option maxRecDepth 20000 in
theorem gX1_regretOf_X1_no : GoodIn wsX1_regretOf (wsV RX1 96 RX1 yX1_no wsX1_no) := goodIn_app (goodIn_of _ (by decide +kernel)) ggX1_regretOf_X1_no
set_option maxRecDepth 20000 in
theorem ggX1_regretOf_X1_isKnown : GoodIn wsX1_regretOf wsX1_isKnown := goodIn_r _ [18, 19, 20, 21, 45, 46, 47, 48, 49, 50, 51, 52, 53, 54, 55, 56, 57] (by decide +kernel) (by decide +kernel)
set_option maxRecDepth 20000 in
theorem gX1_regretOf_X1_isKnown : GoodIn wsX1_regretOf (wsV RX1 90 RX1 yX1_isKnown wsX1_isKnown) := goodIn_app (goodIn_of _ (by decide +kernel)) ggX1_regretOf_X1_isKnown
set_option maxRecDepth 20000 in
theorem ggX1_regretOf_X1_regrets : GoodIn wsX1_regretOf wsX1_regrets := goodIn_r _ [25, 26, 27, 28, 29, 5, 30, 31, 21, 20, 32, 33, 34, 35, 36, 37, 38, 39, 19, 40, 41, 42, 43, 44, 45, 46, 47, 48, 49, 50, 51, 52, 53, 54, 55, 56, 57] (by decide +kernel) (by decide +kernel)
set_option maxRecDepth 20000 in
theorem gX1_regretOf_X1_regrets : GoodIn wsX1_regretOf (wsV RX1 93 RX1 yX1_regrets wsX1_regrets) := goodIn_app (goodIn_of _ (by decide +kernel)) ggX1_regretOf_X1_regrets
theorem dX1_regretOf_0 : decode cX1_regretOf 0 = .ok (.aload_n 0, 1) := by decide +kernel
theorem dX1_regretOf_1 : decode cX1_regretOf 1 = .ok (.iconst 0, 1) := by decide +kernel
theorem dX1_regretOf_2 : decode cX1_regretOf 2 = .ok (.putfield 42, 3) := by decide +kernel
theorem dX1_regretOf_5 : decode cX1_regretOf 5 = .ok (.aload_n 0, 1) := by decide +kernel
theorem dX1_regretOf_6 : decode cX1_regretOf 6 = .ok (.iload_n 1, 1) := by decide +kernel
theorem dX1_regretOf_7 : decode cX1_regretOf 7 = .ok (.invokevirtual 109, 3) := by decide +kernel
theorem dX1_regretOf_10 : decode cX1_regretOf 10 = .ok (.ifCond .ne 9, 3) := by decide +kernel
theorem dX1_regretOf_13 : decode cX1_regretOf 13 = .ok (.aload_n 0, 1) := by decide +kernel
theorem dX1_regretOf_14 : decode cX1_regretOf 14 = .ok (.iconst 1, 1) := by decide +kernel
theorem dX1_regretOf_15 : decode cX1_regretOf 15 = .ok (.invokevirtual 96, 3) := by decide +kernel
theorem dX1_regretOf_18 : decode cX1_regretOf 18 = .ok (.ireturn, 1) := by decide +kernel
theorem dX1_regretOf_19 : decode cX1_regretOf 19 = .ok (.aload_n 0, 1) := by decide +kernel
theorem dX1_regretOf_20 : decode cX1_regretOf 20 = .ok (.iload_n 1, 1) := by decide +kernel
theorem dX1_regretOf_21 : decode cX1_regretOf 21 = .ok (.invokevirtual 90, 3) := by decide +kernel
theorem dX1_regretOf_24 : decode cX1_regretOf 24 = .ok (.ifCond .eq 11, 3) := by decide +kernel
theorem dX1_regretOf_27 : decode cX1_regretOf 27 = .ok (.aload_n 0, 1) := by decide +kernel
theorem dX1_regretOf_28 : decode cX1_regretOf 28 = .ok (.iload_n 1, 1) := by decide +kernel
theorem dX1_regretOf_29 : decode cX1_regretOf 29 = .ok (.invokevirtual 93, 3) := by decide +kernel
theorem dX1_regretOf_32 : decode cX1_regretOf 32 = .ok (.goto 8, 3) := by decide +kernel
theorem dX1_regretOf_35 : decode cX1_regretOf 35 = .ok (.aload_n 0, 1) := by decide +kernel
theorem dX1_regretOf_36 : decode cX1_regretOf 36 = .ok (.iconst 2, 1) := by decide +kernel
theorem dX1_regretOf_37 : decode cX1_regretOf 37 = .ok (.invokevirtual 96, 3) := by decide +kernel
theorem dX1_regretOf_40 : decode cX1_regretOf 40 = .ok (.ireturn, 1) := by decide +kernel
set_option maxRecDepth 20000 in
theorem ggX1_worst_X1_regret : GoodIn wsX1_worst wsX1_regret := goodIn_r _ [7, 2, 8, 9, 10, 11, 12, 13, 14, 15, 16, 6, 17, 18, 19, 20, 21, 22, 23, 24, 25, 26, 27, 28, 29, 30, 31, 32, 33, 34, 35, 36] (by decide +kernel) (by decide +kernel)
set_option maxRecDepth 20000 in
theorem gX1_worst_X1_regret : GoodIn wsX1_worst (wsV RX1 87 RX1 yX1_regret wsX1_regret) := goodIn_app (goodIn_of _ (by decide +kernel)) ggX1_worst_X1_regret
theorem dX1_worst_0 : decode cX1_worst 0 = .ok (.iconst (-1), 1) := by decide +kernel
theorem dX1_worst_1 : decode cX1_worst 1 = .ok (.istore_n 2, 1) := by decide +kernel
theorem dX1_worst_2 : decode cX1_worst 2 = .ok (.iconst 0, 1) := by decide +kernel
theorem dX1_worst_3 : decode cX1_worst 3 = .ok (.istore_n 3, 1) := by decide +kernel
theorem dX1_worst_4 : decode cX1_worst 4 = .ok (.iconst 0, 1) := by decide +kernel
theorem dX1_worst_5 : decode cX1_worst 5 = .ok (.istore 4, 2) := by decide +kernel
theorem dX1_worst_7 : decode cX1_worst 7 = .ok (.iload 4, 2) := by decide +kernel
theorem dX1_worst_9 : decode cX1_worst 9 = .ok (.aload_n 0, 1) := by decide +kernel
theorem dX1_worst_10 : decode cX1_worst 10 = .ok (.getfield 36, 3) := by decide +kernel
theorem dX1_worst_13 : decode cX1_worst 13 = .ok (.iload_n 1, 1) := by decide +kernel
theorem dX1_worst_14 : decode cX1_worst 14 = .ok (.iaload, 1) := by decide +kernel
theorem dX1_worst_15 : decode cX1_worst 15 = .ok (.if_icmp .ge 44, 3) := by decide +kernel
theorem dX1_worst_18 : decode cX1_worst 18 = .ok (.aload_n 0, 1) := by decide +kernel
theorem dX1_worst_19 : decode cX1_worst 19 = .ok (.iload_n 1, 1) := by decide +kernel
theorem dX1_worst_20 : decode cX1_worst 20 = .ok (.iload 4, 2) := by decide +kernel
theorem dX1_worst_22 : decode cX1_worst 22 = .ok (.invokevirtual 87, 3) := by decide +kernel
theorem dX1_worst_25 : decode cX1_worst 25 = .ok (.iload_n 3, 1) := by decide +kernel
theorem dX1_worst_26 : decode cX1_worst 26 = .ok (.if_icmp .gt 6, 3) := by decide +kernel
theorem dX1_worst_29 : decode cX1_worst 29 = .ok (.goto 24, 3) := by decide +kernel
theorem dX1_worst_32 : decode cX1_worst 32 = .ok (.aload_n 0, 1) := by decide +kernel
theorem dX1_worst_33 : decode cX1_worst 33 = .ok (.getfield 39, 3) := by decide +kernel
theorem dX1_worst_36 : decode cX1_worst 36 = .ok (.bipush 40, 2) := by decide +kernel
theorem dX1_worst_38 : decode cX1_worst 38 = .ok (.iload_n 1, 1) := by decide +kernel
theorem dX1_worst_39 : decode cX1_worst 39 = .ok (.imul, 1) := by decide +kernel
theorem dX1_worst_40 : decode cX1_worst 40 = .ok (.iload 4, 2) := by decide +kernel
theorem dX1_worst_42 : decode cX1_worst 42 = .ok (.iadd, 1) := by decide +kernel
theorem dX1_worst_43 : decode cX1_worst 43 = .ok (.iaload, 1) := by decide +kernel
theorem dX1_worst_44 : decode cX1_worst 44 = .ok (.istore_n 2, 1) := by decide +kernel
theorem dX1_worst_45 : decode cX1_worst 45 = .ok (.aload_n 0, 1) := by decide +kernel
theorem dX1_worst_46 : decode cX1_worst 46 = .ok (.iload_n 1, 1) := by decide +kernel
theorem dX1_worst_47 : decode cX1_worst 47 = .ok (.iload 4, 2) := by decide +kernel
theorem dX1_worst_49 : decode cX1_worst 49 = .ok (.invokevirtual 87, 3) := by decide +kernel
theorem dX1_worst_52 : decode cX1_worst 52 = .ok (.istore_n 3, 1) := by decide +kernel
theorem dX1_worst_53 : decode cX1_worst 53 = .ok (.iinc 4 1, 3) := by decide +kernel
theorem dX1_worst_56 : decode cX1_worst 56 = .ok (.goto (-49), 3) := by decide +kernel
theorem dX1_worst_59 : decode cX1_worst 59 = .ok (.iload_n 2, 1) := by decide +kernel
theorem dX1_worst_60 : decode cX1_worst 60 = .ok (.ireturn, 1) := by decide +kernel
set_option maxRecDepth 20000 in
theorem ggX1_worstFork_X1_isStudent : GoodIn wsX1_worstFork wsX1_isStudent := goodIn_r _ [6, 7, 8, 9, 5, 10, 45, 46, 47, 48, 49, 50, 51, 52, 53, 54, 55, 56, 57] (by decide +kernel) (by decide +kernel)
set_option maxRecDepth 20000 in
theorem gX1_worstFork_X1_isStudent : GoodIn wsX1_worstFork (wsV RX1 109 RX1 yX1_isStudent wsX1_isStudent) := goodIn_app (goodIn_of _ (by decide +kernel)) ggX1_worstFork_X1_isStudent
set_option maxRecDepth 20000 in
theorem ggX1_worstFork_X1_no : GoodIn wsX1_worstFork wsX1_no := goodIn_r _ [14, 1, 45, 46, 47, 48, 49, 50, 51, 52, 53, 54, 55, 56, 57] (by decide +kernel) (by decide +kernel)
set_option maxRecDepth 20000 in
theorem gX1_worstFork_X1_no : GoodIn wsX1_worstFork (wsV RX1 96 RX1 yX1_no wsX1_no) := goodIn_app (goodIn_of _ (by decide +kernel)) ggX1_worstFork_X1_no
set_option maxRecDepth 20000 in
theorem ggX1_worstFork_X1_isKnown : GoodIn wsX1_worstFork wsX1_isKnown := goodIn_r _ [18, 19, 20, 21, 45, 46, 47, 48, 49, 50, 51, 52, 53, 54, 55, 56, 57] (by decide +kernel) (by decide +kernel)
set_option maxRecDepth 20000 in
theorem gX1_worstFork_X1_isKnown : GoodIn wsX1_worstFork (wsV RX1 90 RX1 yX1_isKnown wsX1_isKnown) := goodIn_app (goodIn_of _ (by decide +kernel)) ggX1_worstFork_X1_isKnown
set_option maxRecDepth 20000 in
theorem ggX1_worstFork_X1_worst : GoodIn wsX1_worstFork wsX1_worst := goodIn_r _ [25, 26, 27, 28, 29, 30, 5, 31, 21, 20, 32, 33, 34, 35, 36, 37, 38, 39, 19, 40, 41, 42, 43, 44, 45, 46, 47, 48, 49, 50, 51, 52, 53, 54, 55, 56, 57] (by decide +kernel) (by decide +kernel)
set_option maxRecDepth 20000 in
theorem gX1_worstFork_X1_worst : GoodIn wsX1_worstFork (wsV RX1 150 RX1 yX1_worst wsX1_worst) := goodIn_app (goodIn_of _ (by decide +kernel)) ggX1_worstFork_X1_worst
theorem dX1_worstFork_0 : decode cX1_worstFork 0 = .ok (.aload_n 0, 1) := by decide +kernel
theorem dX1_worstFork_1 : decode cX1_worstFork 1 = .ok (.iconst 0, 1) := by decide +kernel
theorem dX1_worstFork_2 : decode cX1_worstFork 2 = .ok (.putfield 42, 3) := by decide +kernel
theorem dX1_worstFork_5 : decode cX1_worstFork 5 = .ok (.aload_n 0, 1) := by decide +kernel
theorem dX1_worstFork_6 : decode cX1_worstFork 6 = .ok (.iload_n 1, 1) := by decide +kernel
theorem dX1_worstFork_7 : decode cX1_worstFork 7 = .ok (.invokevirtual 109, 3) := by decide +kernel
theorem dX1_worstFork_10 : decode cX1_worstFork 10 = .ok (.ifCond .ne 9, 3) := by decide +kernel
theorem dX1_worstFork_13 : decode cX1_worstFork 13 = .ok (.aload_n 0, 1) := by decide +kernel
theorem dX1_worstFork_14 : decode cX1_worstFork 14 = .ok (.iconst 1, 1) := by decide +kernel
theorem dX1_worstFork_15 : decode cX1_worstFork 15 = .ok (.invokevirtual 96, 3) := by decide +kernel
theorem dX1_worstFork_18 : decode cX1_worstFork 18 = .ok (.ireturn, 1) := by decide +kernel
theorem dX1_worstFork_19 : decode cX1_worstFork 19 = .ok (.aload_n 0, 1) := by decide +kernel
theorem dX1_worstFork_20 : decode cX1_worstFork 20 = .ok (.iload_n 1, 1) := by decide +kernel
theorem dX1_worstFork_21 : decode cX1_worstFork 21 = .ok (.invokevirtual 90, 3) := by decide +kernel
theorem dX1_worstFork_24 : decode cX1_worstFork 24 = .ok (.ifCond .eq 11, 3) := by decide +kernel
theorem dX1_worstFork_27 : decode cX1_worstFork 27 = .ok (.aload_n 0, 1) := by decide +kernel
theorem dX1_worstFork_28 : decode cX1_worstFork 28 = .ok (.iload_n 1, 1) := by decide +kernel
theorem dX1_worstFork_29 : decode cX1_worstFork 29 = .ok (.invokevirtual 150, 3) := by decide +kernel
theorem dX1_worstFork_32 : decode cX1_worstFork 32 = .ok (.goto 8, 3) := by decide +kernel
theorem dX1_worstFork_35 : decode cX1_worstFork 35 = .ok (.aload_n 0, 1) := by decide +kernel
theorem dX1_worstFork_36 : decode cX1_worstFork 36 = .ok (.iconst 2, 1) := by decide +kernel
theorem dX1_worstFork_37 : decode cX1_worstFork 37 = .ok (.invokevirtual 96, 3) := by decide +kernel
theorem dX1_worstFork_40 : decode cX1_worstFork 40 = .ok (.ireturn, 1) := by decide +kernel
set_option maxRecDepth 20000 in
theorem ggX1_allRegret_X1_allRegrets : GoodIn wsX1_allRegret wsX1_allRegrets := goodIn_r _ [5, 6, 7, 8, 9, 4, 10, 11, 12, 13, 14, 15, 16, 17, 18, 19, 20, 21, 22, 23, 24, 25, 26, 27, 28, 29, 30, 31, 32, 33, 34, 35, 36, 42, 43, 44, 45, 46, 47, 48, 49, 50, 51, 52, 53, 54] (by decide +kernel) (by decide +kernel)
set_option maxRecDepth 20000 in
theorem gX1_allRegret_X1_allRegrets : GoodIn wsX1_allRegret (wsV RX1 153 RX1 yX1_allRegrets wsX1_allRegrets) := goodIn_app (goodIn_of _ (by decide +kernel)) ggX1_allRegret_X1_allRegrets
set_option maxRecDepth 20000 in
theorem ggX1_allRegret_X1_ok : GoodIn wsX1_allRegret wsX1_ok := goodIn_r _ [40, 41, 42, 43, 44, 45, 46, 47, 48, 49, 50, 51, 52, 53, 54] (by decide +kernel) (by decide +kernel)
set_option maxRecDepth 20000 in
theorem gX1_allRegret_X1_ok : GoodIn wsX1_allRegret (wsV RX1 119 RX1 yX1_ok wsX1_ok) := goodIn_app (goodIn_of _ (by decide +kernel)) ggX1_allRegret_X1_ok
theorem dX1_allRegret_0 : decode cX1_allRegret 0 = .ok (.aload_n 0, 1) := by decide +kernel
theorem dX1_allRegret_1 : decode cX1_allRegret 1 = .ok (.aload_n 0, 1) := by decide +kernel
theorem dX1_allRegret_2 : decode cX1_allRegret 2 = .ok (.invokevirtual 153, 3) := by decide +kernel
theorem dX1_allRegret_5 : decode cX1_allRegret 5 = .ok (.invokevirtual 119, 3) := by decide +kernel
theorem dX1_allRegret_8 : decode cX1_allRegret 8 = .ok (.ireturn, 1) := by decide +kernel
set_option maxRecDepth 20000 in
theorem ggX1_meanGrade_X1_gradedNow : GoodIn wsX1_meanGrade wsX1_gradedNow := goodIn_r _ [9, 2, 3, 4, 10, 11, 12, 13, 14, 15, 16, 17, 18, 19, 20, 21, 22] (by decide +kernel) (by decide +kernel)
set_option maxRecDepth 20000 in
theorem gX1_meanGrade_X1_gradedNow : GoodIn wsX1_meanGrade (wsV RX1 102 RX1 yX1_gradedNow wsX1_gradedNow) := goodIn_app (goodIn_of _ (by decide +kernel)) ggX1_meanGrade_X1_gradedNow
theorem dX1_meanGrade_0 : decode cX1_meanGrade 0 = .ok (.aload_n 0, 1) := by decide +kernel
theorem dX1_meanGrade_1 : decode cX1_meanGrade 1 = .ok (.iconst 0, 1) := by decide +kernel
theorem dX1_meanGrade_2 : decode cX1_meanGrade 2 = .ok (.putfield 42, 3) := by decide +kernel
theorem dX1_meanGrade_5 : decode cX1_meanGrade 5 = .ok (.iconst 0, 1) := by decide +kernel
theorem dX1_meanGrade_6 : decode cX1_meanGrade 6 = .ok (.istore_n 1, 1) := by decide +kernel
theorem dX1_meanGrade_7 : decode cX1_meanGrade 7 = .ok (.iconst 0, 1) := by decide +kernel
theorem dX1_meanGrade_8 : decode cX1_meanGrade 8 = .ok (.istore_n 2, 1) := by decide +kernel
theorem dX1_meanGrade_9 : decode cX1_meanGrade 9 = .ok (.iload_n 2, 1) := by decide +kernel
theorem dX1_meanGrade_10 : decode cX1_meanGrade 10 = .ok (.aload_n 0, 1) := by decide +kernel
theorem dX1_meanGrade_11 : decode cX1_meanGrade 11 = .ok (.getfield 46, 3) := by decide +kernel
theorem dX1_meanGrade_14 : decode cX1_meanGrade 14 = .ok (.if_icmp .ge 41, 3) := by decide +kernel
theorem dX1_meanGrade_17 : decode cX1_meanGrade 17 = .ok (.iload_n 1, 1) := by decide +kernel
theorem dX1_meanGrade_18 : decode cX1_meanGrade 18 = .ok (.aload_n 0, 1) := by decide +kernel
theorem dX1_meanGrade_19 : decode cX1_meanGrade 19 = .ok (.getfield 9, 3) := by decide +kernel
theorem dX1_meanGrade_22 : decode cX1_meanGrade 22 = .ok (.iload_n 2, 1) := by decide +kernel
theorem dX1_meanGrade_23 : decode cX1_meanGrade 23 = .ok (.baload, 1) := by decide +kernel
theorem dX1_meanGrade_24 : decode cX1_meanGrade 24 = .ok (.ifCond .ne 22, 3) := by decide +kernel
theorem dX1_meanGrade_27 : decode cX1_meanGrade 27 = .ok (.aload_n 0, 1) := by decide +kernel
theorem dX1_meanGrade_28 : decode cX1_meanGrade 28 = .ok (.getfield 20, 3) := by decide +kernel
theorem dX1_meanGrade_31 : decode cX1_meanGrade 31 = .ok (.iload_n 2, 1) := by decide +kernel
theorem dX1_meanGrade_32 : decode cX1_meanGrade 32 = .ok (.iaload, 1) := by decide +kernel
theorem dX1_meanGrade_33 : decode cX1_meanGrade 33 = .ok (.iconst (-1), 1) := by decide +kernel
theorem dX1_meanGrade_34 : decode cX1_meanGrade 34 = .ok (.if_icmp .eq 12, 3) := by decide +kernel
theorem dX1_meanGrade_37 : decode cX1_meanGrade 37 = .ok (.aload_n 0, 1) := by decide +kernel
theorem dX1_meanGrade_38 : decode cX1_meanGrade 38 = .ok (.getfield 20, 3) := by decide +kernel
theorem dX1_meanGrade_41 : decode cX1_meanGrade 41 = .ok (.iload_n 2, 1) := by decide +kernel
theorem dX1_meanGrade_42 : decode cX1_meanGrade 42 = .ok (.iaload, 1) := by decide +kernel
theorem dX1_meanGrade_43 : decode cX1_meanGrade 43 = .ok (.goto 4, 3) := by decide +kernel
theorem dX1_meanGrade_46 : decode cX1_meanGrade 46 = .ok (.iconst 0, 1) := by decide +kernel
theorem dX1_meanGrade_47 : decode cX1_meanGrade 47 = .ok (.iadd, 1) := by decide +kernel
theorem dX1_meanGrade_48 : decode cX1_meanGrade 48 = .ok (.istore_n 1, 1) := by decide +kernel
theorem dX1_meanGrade_49 : decode cX1_meanGrade 49 = .ok (.iinc 2 1, 3) := by decide +kernel
theorem dX1_meanGrade_52 : decode cX1_meanGrade 52 = .ok (.goto (-43), 3) := by decide +kernel
theorem dX1_meanGrade_55 : decode cX1_meanGrade 55 = .ok (.aload_n 0, 1) := by decide +kernel
theorem dX1_meanGrade_56 : decode cX1_meanGrade 56 = .ok (.invokevirtual 102, 3) := by decide +kernel
theorem dX1_meanGrade_59 : decode cX1_meanGrade 59 = .ok (.ifCond .ne 7, 3) := by decide +kernel
theorem dX1_meanGrade_62 : decode cX1_meanGrade 62 = .ok (.dconst 0, 1) := by decide +kernel
theorem dX1_meanGrade_63 : decode cX1_meanGrade 63 = .ok (.goto 11, 3) := by decide +kernel
theorem dX1_meanGrade_66 : decode cX1_meanGrade 66 = .ok (.iload_n 1, 1) := by decide +kernel
theorem dX1_meanGrade_67 : decode cX1_meanGrade 67 = .ok (.i2d, 1) := by decide +kernel
theorem dX1_meanGrade_68 : decode cX1_meanGrade 68 = .ok (.aload_n 0, 1) := by decide +kernel
theorem dX1_meanGrade_69 : decode cX1_meanGrade 69 = .ok (.invokevirtual 102, 3) := by decide +kernel
theorem dX1_meanGrade_72 : decode cX1_meanGrade 72 = .ok (.i2d, 1) := by decide +kernel
theorem dX1_meanGrade_73 : decode cX1_meanGrade 73 = .ok (.ddiv, 1) := by decide +kernel
theorem dX1_meanGrade_74 : decode cX1_meanGrade 74 = .ok (.dreturn, 1) := by decide +kernel
set_option maxRecDepth 20000 in
theorem ggX1_digest_X1_table : GoodIn wsX1_digest wsX1_table := goodIn_r _ [19, 3, 7, 12, 8, 10, 11, 20, 21, 22, 23, 9, 89, 90, 91, 92, 93, 94, 95, 96, 97, 98, 99, 100, 101] (by decide +kernel) (by decide +kernel)
set_option maxRecDepth 20000 in
theorem gX1_digest_X1_table : GoodIn wsX1_digest (wsV RX1 116 RX1 yX1_table wsX1_table) := goodIn_app (goodIn_of _ (by decide +kernel)) ggX1_digest_X1_table
set_option maxRecDepth 20000 in
theorem ggX1_digest_X1_examsNow : GoodIn wsX1_digest wsX1_examsNow := goodIn_r _ [27, 3, 7, 89, 90, 91, 92, 93, 94, 95, 96, 97, 98, 99, 100, 101] (by decide +kernel) (by decide +kernel)
set_option maxRecDepth 20000 in
theorem gX1_digest_X1_examsNow : GoodIn wsX1_digest (wsV RX1 122 RX1 yX1_examsNow wsX1_examsNow) := goodIn_app (goodIn_of _ (by decide +kernel)) ggX1_digest_X1_examsNow
set_option maxRecDepth 20000 in
theorem ggX1_digest_X1_gradedNow : GoodIn wsX1_digest wsX1_gradedNow := goodIn_r _ [31, 3, 7, 12, 89, 90, 91, 92, 93, 94, 95, 96, 97, 98, 99, 100, 101] (by decide +kernel) (by decide +kernel)
set_option maxRecDepth 20000 in
theorem gX1_digest_X1_gradedNow : GoodIn wsX1_digest (wsV RX1 102 RX1 yX1_gradedNow wsX1_gradedNow) := goodIn_app (goodIn_of _ (by decide +kernel)) ggX1_digest_X1_gradedNow
set_option maxRecDepth 20000 in
theorem ggX1_digest_X1_atEnds : GoodIn wsX1_digest wsX1_atEnds := goodIn_r _ [35, 4, 7, 13, 89, 90, 91, 92, 93, 94, 95, 96, 97, 98, 99, 100, 101] (by decide +kernel) (by decide +kernel)
set_option maxRecDepth 20000 in
theorem gX1_digest_X1_atEnds : GoodIn wsX1_digest (wsV RX1 125 RX1 yX1_atEnds wsX1_atEnds) := goodIn_app (goodIn_of _ (by decide +kernel)) ggX1_digest_X1_atEnds
set_option maxRecDepth 20000 in
theorem ggX1_digest_X1_riskiest : GoodIn wsX1_digest wsX1_riskiest := goodIn_r _ [39, 3, 7, 40, 41, 22, 42, 43, 44, 45, 18, 46, 11, 10, 9, 8, 20, 21, 23, 12, 89, 90, 91, 92, 93, 94, 95, 96, 97, 98, 99, 100, 101] (by decide +kernel) (by decide +kernel)
set_option maxRecDepth 20000 in
theorem gX1_digest_X1_riskiest : GoodIn wsX1_digest (wsV RX1 147 RX1 yX1_riskiest wsX1_riskiest) := goodIn_app (goodIn_of _ (by decide +kernel)) ggX1_digest_X1_riskiest
set_option maxRecDepth 20000 in
theorem ggX1_digest_X1_allRegrets : GoodIn wsX1_digest wsX1_allRegrets := goodIn_r _ [50, 4, 51, 52, 53, 18, 54, 7, 13, 12, 55, 56, 57, 58, 14, 59, 60, 61, 62, 63, 20, 21, 22, 23, 64, 65, 66, 67, 68, 69, 70, 71, 72, 89, 90, 91, 92, 93, 94, 95, 96, 97, 98, 99, 100, 101] (by decide +kernel) (by decide +kernel)
set_option maxRecDepth 20000 in
theorem gX1_digest_X1_allRegrets : GoodIn wsX1_digest (wsV RX1 153 RX1 yX1_allRegrets wsX1_allRegrets) := goodIn_app (goodIn_of _ (by decide +kernel)) ggX1_digest_X1_allRegrets
set_option maxRecDepth 20000 in
theorem ggX1_digest_X1_examsOf : GoodIn wsX1_digest wsX1_examsOf := goodIn_r _ [76, 7, 68, 69, 70, 18, 71, 72, 89, 90, 91, 92, 93, 94, 95, 96, 97, 98, 99, 100, 101] (by decide +kernel) (by decide +kernel)
set_option maxRecDepth 20000 in
theorem gX1_digest_X1_examsOf : GoodIn wsX1_digest (wsV RX1 141 RX1 yX1_examsOf wsX1_examsOf) := goodIn_app (goodIn_of _ (by decide +kernel)) ggX1_digest_X1_examsOf
set_option maxRecDepth 20000 in
theorem ggX1_digest_X1_leads : GoodIn wsX1_digest wsX1_leads := goodIn_r _ [80, 7, 81, 82, 83, 18, 84, 11, 10, 85, 86, 87, 88, 43, 44, 45, 46, 9, 8, 20, 21, 22, 23, 12, 89, 90, 91, 92, 93, 94, 95, 96, 97, 98, 99, 100, 101] (by decide +kernel) (by decide +kernel)
set_option maxRecDepth 20000 in
theorem gX1_digest_X1_leads : GoodIn wsX1_digest (wsV RX1 144 RX1 yX1_leads wsX1_leads) := goodIn_app (goodIn_of _ (by decide +kernel)) ggX1_digest_X1_leads
set_option maxRecDepth 20000 in
theorem ggX1_digest_X1_behind : GoodIn wsX1_digest wsX1_behind := goodIn_r _ [67, 7, 12, 20, 21, 22, 23, 68, 69, 70, 18, 71, 72, 89, 90, 91, 92, 93, 94, 95, 96, 97, 98, 99, 100, 101] (by decide +kernel) (by decide +kernel)
set_option maxRecDepth 20000 in
theorem gX1_digest_X1_behind : GoodIn wsX1_digest (wsV RX1 84 RX1 yX1_behind wsX1_behind) := goodIn_app (goodIn_of _ (by decide +kernel)) ggX1_digest_X1_behind
theorem dX1_digest_0 : decode cX1_digest 0 = .ok (.aload_n 0, 1) := by decide +kernel
theorem dX1_digest_1 : decode cX1_digest 1 = .ok (.iconst 0, 1) := by decide +kernel
theorem dX1_digest_2 : decode cX1_digest 2 = .ok (.putfield 42, 3) := by decide +kernel
theorem dX1_digest_5 : decode cX1_digest 5 = .ok (.aload_n 0, 1) := by decide +kernel
theorem dX1_digest_6 : decode cX1_digest 6 = .ok (.invokevirtual 116, 3) := by decide +kernel
theorem dX1_digest_9 : decode cX1_digest 9 = .ok (.bipush 7, 2) := by decide +kernel
theorem dX1_digest_11 : decode cX1_digest 11 = .ok (.newarray .int, 2) := by decide +kernel
theorem dX1_digest_13 : decode cX1_digest 13 = .ok (.dup, 1) := by decide +kernel
theorem dX1_digest_14 : decode cX1_digest 14 = .ok (.iconst 0, 1) := by decide +kernel
theorem dX1_digest_15 : decode cX1_digest 15 = .ok (.aload_n 0, 1) := by decide +kernel
theorem dX1_digest_16 : decode cX1_digest 16 = .ok (.getfield 46, 3) := by decide +kernel
theorem dX1_digest_19 : decode cX1_digest 19 = .ok (.iastore, 1) := by decide +kernel
theorem dX1_digest_20 : decode cX1_digest 20 = .ok (.dup, 1) := by decide +kernel
theorem dX1_digest_21 : decode cX1_digest 21 = .ok (.iconst 1, 1) := by decide +kernel
theorem dX1_digest_22 : decode cX1_digest 22 = .ok (.aload_n 0, 1) := by decide +kernel
theorem dX1_digest_23 : decode cX1_digest 23 = .ok (.invokevirtual 122, 3) := by decide +kernel
theorem dX1_digest_26 : decode cX1_digest 26 = .ok (.iastore, 1) := by decide +kernel
theorem dX1_digest_27 : decode cX1_digest 27 = .ok (.dup, 1) := by decide +kernel
theorem dX1_digest_28 : decode cX1_digest 28 = .ok (.iconst 2, 1) := by decide +kernel
theorem dX1_digest_29 : decode cX1_digest 29 = .ok (.aload_n 0, 1) := by decide +kernel
theorem dX1_digest_30 : decode cX1_digest 30 = .ok (.invokevirtual 102, 3) := by decide +kernel
theorem dX1_digest_33 : decode cX1_digest 33 = .ok (.iastore, 1) := by decide +kernel
theorem dX1_digest_34 : decode cX1_digest 34 = .ok (.dup, 1) := by decide +kernel
theorem dX1_digest_35 : decode cX1_digest 35 = .ok (.iconst 3, 1) := by decide +kernel
theorem dX1_digest_36 : decode cX1_digest 36 = .ok (.aload_n 0, 1) := by decide +kernel
theorem dX1_digest_37 : decode cX1_digest 37 = .ok (.getfield 57, 3) := by decide +kernel
theorem dX1_digest_40 : decode cX1_digest 40 = .ok (.iastore, 1) := by decide +kernel
theorem dX1_digest_41 : decode cX1_digest 41 = .ok (.dup, 1) := by decide +kernel
theorem dX1_digest_42 : decode cX1_digest 42 = .ok (.iconst 4, 1) := by decide +kernel
theorem dX1_digest_43 : decode cX1_digest 43 = .ok (.aload_n 0, 1) := by decide +kernel
theorem dX1_digest_44 : decode cX1_digest 44 = .ok (.invokevirtual 125, 3) := by decide +kernel
theorem dX1_digest_47 : decode cX1_digest 47 = .ok (.iastore, 1) := by decide +kernel
theorem dX1_digest_48 : decode cX1_digest 48 = .ok (.dup, 1) := by decide +kernel
theorem dX1_digest_49 : decode cX1_digest 49 = .ok (.iconst 5, 1) := by decide +kernel
theorem dX1_digest_50 : decode cX1_digest 50 = .ok (.aload_n 0, 1) := by decide +kernel
theorem dX1_digest_51 : decode cX1_digest 51 = .ok (.invokevirtual 147, 3) := by decide +kernel
theorem dX1_digest_54 : decode cX1_digest 54 = .ok (.iastore, 1) := by decide +kernel
theorem dX1_digest_55 : decode cX1_digest 55 = .ok (.dup, 1) := by decide +kernel
theorem dX1_digest_56 : decode cX1_digest 56 = .ok (.bipush 6, 2) := by decide +kernel
theorem dX1_digest_58 : decode cX1_digest 58 = .ok (.aload_n 0, 1) := by decide +kernel
theorem dX1_digest_59 : decode cX1_digest 59 = .ok (.invokevirtual 153, 3) := by decide +kernel
theorem dX1_digest_62 : decode cX1_digest 62 = .ok (.iastore, 1) := by decide +kernel
theorem dX1_digest_63 : decode cX1_digest 63 = .ok (.astore_n 1, 1) := by decide +kernel
theorem dX1_digest_64 : decode cX1_digest 64 = .ok (.ldc2_w 156, 3) := by decide +kernel
theorem dX1_digest_67 : decode cX1_digest 67 = .ok (.lstore_n 2, 1) := by decide +kernel
theorem dX1_digest_68 : decode cX1_digest 68 = .ok (.aload_n 1, 1) := by decide +kernel
theorem dX1_digest_69 : decode cX1_digest 69 = .ok (.astore 4, 2) := by decide +kernel
theorem dX1_digest_71 : decode cX1_digest 71 = .ok (.aload 4, 2) := by decide +kernel
theorem dX1_digest_73 : decode cX1_digest 73 = .ok (.arraylength, 1) := by decide +kernel
theorem dX1_digest_74 : decode cX1_digest 74 = .ok (.istore 5, 2) := by decide +kernel
theorem dX1_digest_76 : decode cX1_digest 76 = .ok (.iconst 0, 1) := by decide +kernel
theorem dX1_digest_77 : decode cX1_digest 77 = .ok (.istore 6, 2) := by decide +kernel
theorem dX1_digest_79 : decode cX1_digest 79 = .ok (.iload 6, 2) := by decide +kernel
theorem dX1_digest_81 : decode cX1_digest 81 = .ok (.iload 5, 2) := by decide +kernel
theorem dX1_digest_83 : decode cX1_digest 83 = .ok (.if_icmp .ge 26, 3) := by decide +kernel
theorem dX1_digest_86 : decode cX1_digest 86 = .ok (.aload 4, 2) := by decide +kernel
theorem dX1_digest_88 : decode cX1_digest 88 = .ok (.iload 6, 2) := by decide +kernel
theorem dX1_digest_90 : decode cX1_digest 90 = .ok (.iaload, 1) := by decide +kernel
theorem dX1_digest_91 : decode cX1_digest 91 = .ok (.istore 7, 2) := by decide +kernel
theorem dX1_digest_93 : decode cX1_digest 93 = .ok (.lload_n 2, 1) := by decide +kernel
theorem dX1_digest_94 : decode cX1_digest 94 = .ok (.ldc2_w 158, 3) := by decide +kernel
theorem dX1_digest_97 : decode cX1_digest 97 = .ok (.lmul, 1) := by decide +kernel
theorem dX1_digest_98 : decode cX1_digest 98 = .ok (.iload 7, 2) := by decide +kernel
theorem dX1_digest_100 : decode cX1_digest 100 = .ok (.i2l, 1) := by decide +kernel
theorem dX1_digest_101 : decode cX1_digest 101 = .ok (.ladd, 1) := by decide +kernel
theorem dX1_digest_102 : decode cX1_digest 102 = .ok (.lstore_n 2, 1) := by decide +kernel
theorem dX1_digest_103 : decode cX1_digest 103 = .ok (.iinc 6 1, 3) := by decide +kernel
theorem dX1_digest_106 : decode cX1_digest 106 = .ok (.goto (-27), 3) := by decide +kernel
theorem dX1_digest_109 : decode cX1_digest 109 = .ok (.iconst 0, 1) := by decide +kernel
theorem dX1_digest_110 : decode cX1_digest 110 = .ok (.istore 4, 2) := by decide +kernel
theorem dX1_digest_112 : decode cX1_digest 112 = .ok (.iload 4, 2) := by decide +kernel
theorem dX1_digest_114 : decode cX1_digest 114 = .ok (.aload_n 0, 1) := by decide +kernel
theorem dX1_digest_115 : decode cX1_digest 115 = .ok (.getfield 46, 3) := by decide +kernel
theorem dX1_digest_118 : decode cX1_digest 118 = .ok (.if_icmp .ge 193, 3) := by decide +kernel
theorem dX1_digest_121 : decode cX1_digest 121 = .ok (.iconst 5, 1) := by decide +kernel
theorem dX1_digest_122 : decode cX1_digest 122 = .ok (.newarray .int, 2) := by decide +kernel
theorem dX1_digest_124 : decode cX1_digest 124 = .ok (.dup, 1) := by decide +kernel
theorem dX1_digest_125 : decode cX1_digest 125 = .ok (.iconst 0, 1) := by decide +kernel
theorem dX1_digest_126 : decode cX1_digest 126 = .ok (.aload_n 0, 1) := by decide +kernel
theorem dX1_digest_127 : decode cX1_digest 127 = .ok (.getfield 9, 3) := by decide +kernel
theorem dX1_digest_130 : decode cX1_digest 130 = .ok (.iload 4, 2) := by decide +kernel
theorem dX1_digest_132 : decode cX1_digest 132 = .ok (.baload, 1) := by decide +kernel
theorem dX1_digest_133 : decode cX1_digest 133 = .ok (.ifCond .eq 7, 3) := by decide +kernel
theorem dX1_digest_136 : decode cX1_digest 136 = .ok (.iconst 0, 1) := by decide +kernel
theorem dX1_digest_137 : decode cX1_digest 137 = .ok (.goto 4, 3) := by decide +kernel
theorem dX1_digest_140 : decode cX1_digest 140 = .ok (.iconst 1, 1) := by decide +kernel
theorem dX1_digest_141 : decode cX1_digest 141 = .ok (.iastore, 1) := by decide +kernel
theorem dX1_digest_142 : decode cX1_digest 142 = .ok (.dup, 1) := by decide +kernel
theorem dX1_digest_143 : decode cX1_digest 143 = .ok (.iconst 1, 1) := by decide +kernel
theorem dX1_digest_144 : decode cX1_digest 144 = .ok (.aload_n 0, 1) := by decide +kernel
theorem dX1_digest_145 : decode cX1_digest 145 = .ok (.getfield 27, 3) := by decide +kernel
theorem dX1_digest_148 : decode cX1_digest 148 = .ok (.iload 4, 2) := by decide +kernel
theorem dX1_digest_150 : decode cX1_digest 150 = .ok (.iaload, 1) := by decide +kernel
theorem dX1_digest_151 : decode cX1_digest 151 = .ok (.iastore, 1) := by decide +kernel
theorem dX1_digest_152 : decode cX1_digest 152 = .ok (.dup, 1) := by decide +kernel
theorem dX1_digest_153 : decode cX1_digest 153 = .ok (.iconst 2, 1) := by decide +kernel
theorem dX1_digest_154 : decode cX1_digest 154 = .ok (.aload_n 0, 1) := by decide +kernel
theorem dX1_digest_155 : decode cX1_digest 155 = .ok (.getfield 30, 3) := by decide +kernel
theorem dX1_digest_158 : decode cX1_digest 158 = .ok (.iload 4, 2) := by decide +kernel
theorem dX1_digest_160 : decode cX1_digest 160 = .ok (.iaload, 1) := by decide +kernel
theorem dX1_digest_161 : decode cX1_digest 161 = .ok (.iastore, 1) := by decide +kernel
theorem dX1_digest_162 : decode cX1_digest 162 = .ok (.dup, 1) := by decide +kernel
theorem dX1_digest_163 : decode cX1_digest 163 = .ok (.iconst 3, 1) := by decide +kernel
theorem dX1_digest_164 : decode cX1_digest 164 = .ok (.aload_n 0, 1) := by decide +kernel
theorem dX1_digest_165 : decode cX1_digest 165 = .ok (.iload 4, 2) := by decide +kernel
theorem dX1_digest_167 : decode cX1_digest 167 = .ok (.invokevirtual 141, 3) := by decide +kernel
theorem dX1_digest_170 : decode cX1_digest 170 = .ok (.iastore, 1) := by decide +kernel
theorem dX1_digest_171 : decode cX1_digest 171 = .ok (.dup, 1) := by decide +kernel
theorem dX1_digest_172 : decode cX1_digest 172 = .ok (.iconst 4, 1) := by decide +kernel
theorem dX1_digest_173 : decode cX1_digest 173 = .ok (.aload_n 0, 1) := by decide +kernel
theorem dX1_digest_174 : decode cX1_digest 174 = .ok (.iload 4, 2) := by decide +kernel
theorem dX1_digest_176 : decode cX1_digest 176 = .ok (.invokevirtual 144, 3) := by decide +kernel
theorem dX1_digest_179 : decode cX1_digest 179 = .ok (.iastore, 1) := by decide +kernel
theorem dX1_digest_180 : decode cX1_digest 180 = .ok (.astore 5, 2) := by decide +kernel
theorem dX1_digest_182 : decode cX1_digest 182 = .ok (.aload 5, 2) := by decide +kernel
theorem dX1_digest_184 : decode cX1_digest 184 = .ok (.astore 6, 2) := by decide +kernel
theorem dX1_digest_186 : decode cX1_digest 186 = .ok (.aload 6, 2) := by decide +kernel
theorem dX1_digest_188 : decode cX1_digest 188 = .ok (.arraylength, 1) := by decide +kernel
theorem dX1_digest_189 : decode cX1_digest 189 = .ok (.istore 7, 2) := by decide +kernel
theorem dX1_digest_191 : decode cX1_digest 191 = .ok (.iconst 0, 1) := by decide +kernel
theorem dX1_digest_192 : decode cX1_digest 192 = .ok (.istore 8, 2) := by decide +kernel
theorem dX1_digest_194 : decode cX1_digest 194 = .ok (.iload 8, 2) := by decide +kernel
theorem dX1_digest_196 : decode cX1_digest 196 = .ok (.iload 7, 2) := by decide +kernel
theorem dX1_digest_198 : decode cX1_digest 198 = .ok (.if_icmp .ge 26, 3) := by decide +kernel
theorem dX1_digest_201 : decode cX1_digest 201 = .ok (.aload 6, 2) := by decide +kernel
theorem dX1_digest_203 : decode cX1_digest 203 = .ok (.iload 8, 2) := by decide +kernel
theorem dX1_digest_205 : decode cX1_digest 205 = .ok (.iaload, 1) := by decide +kernel
theorem dX1_digest_206 : decode cX1_digest 206 = .ok (.istore 9, 2) := by decide +kernel
theorem dX1_digest_208 : decode cX1_digest 208 = .ok (.lload_n 2, 1) := by decide +kernel
theorem dX1_digest_209 : decode cX1_digest 209 = .ok (.ldc2_w 158, 3) := by decide +kernel
theorem dX1_digest_212 : decode cX1_digest 212 = .ok (.lmul, 1) := by decide +kernel
theorem dX1_digest_213 : decode cX1_digest 213 = .ok (.iload 9, 2) := by decide +kernel
theorem dX1_digest_215 : decode cX1_digest 215 = .ok (.i2l, 1) := by decide +kernel
theorem dX1_digest_216 : decode cX1_digest 216 = .ok (.ladd, 1) := by decide +kernel
theorem dX1_digest_217 : decode cX1_digest 217 = .ok (.lstore_n 2, 1) := by decide +kernel
theorem dX1_digest_218 : decode cX1_digest 218 = .ok (.iinc 8 1, 3) := by decide +kernel
theorem dX1_digest_221 : decode cX1_digest 221 = .ok (.goto (-27), 3) := by decide +kernel
theorem dX1_digest_224 : decode cX1_digest 224 = .ok (.aload_n 0, 1) := by decide +kernel
theorem dX1_digest_225 : decode cX1_digest 225 = .ok (.getfield 9, 3) := by decide +kernel
theorem dX1_digest_228 : decode cX1_digest 228 = .ok (.iload 4, 2) := by decide +kernel
theorem dX1_digest_230 : decode cX1_digest 230 = .ok (.baload, 1) := by decide +kernel
theorem dX1_digest_231 : decode cX1_digest 231 = .ok (.ifCond .eq 59, 3) := by decide +kernel
theorem dX1_digest_234 : decode cX1_digest 234 = .ok (.lload_n 2, 1) := by decide +kernel
theorem dX1_digest_235 : decode cX1_digest 235 = .ok (.ldc2_w 158, 3) := by decide +kernel
theorem dX1_digest_238 : decode cX1_digest 238 = .ok (.lmul, 1) := by decide +kernel
theorem dX1_digest_239 : decode cX1_digest 239 = .ok (.aload_n 0, 1) := by decide +kernel
theorem dX1_digest_240 : decode cX1_digest 240 = .ok (.getfield 13, 3) := by decide +kernel
theorem dX1_digest_243 : decode cX1_digest 243 = .ok (.iload 4, 2) := by decide +kernel
theorem dX1_digest_245 : decode cX1_digest 245 = .ok (.iaload, 1) := by decide +kernel
theorem dX1_digest_246 : decode cX1_digest 246 = .ok (.i2l, 1) := by decide +kernel
theorem dX1_digest_247 : decode cX1_digest 247 = .ok (.ladd, 1) := by decide +kernel
theorem dX1_digest_248 : decode cX1_digest 248 = .ok (.ldc2_w 158, 3) := by decide +kernel
theorem dX1_digest_251 : decode cX1_digest 251 = .ok (.lmul, 1) := by decide +kernel
theorem dX1_digest_252 : decode cX1_digest 252 = .ok (.aload_n 0, 1) := by decide +kernel
theorem dX1_digest_253 : decode cX1_digest 253 = .ok (.getfield 17, 3) := by decide +kernel
theorem dX1_digest_256 : decode cX1_digest 256 = .ok (.iload 4, 2) := by decide +kernel
theorem dX1_digest_258 : decode cX1_digest 258 = .ok (.iaload, 1) := by decide +kernel
theorem dX1_digest_259 : decode cX1_digest 259 = .ok (.i2l, 1) := by decide +kernel
theorem dX1_digest_260 : decode cX1_digest 260 = .ok (.ladd, 1) := by decide +kernel
theorem dX1_digest_261 : decode cX1_digest 261 = .ok (.ldc2_w 158, 3) := by decide +kernel
theorem dX1_digest_264 : decode cX1_digest 264 = .ok (.lmul, 1) := by decide +kernel
theorem dX1_digest_265 : decode cX1_digest 265 = .ok (.aload_n 0, 1) := by decide +kernel
theorem dX1_digest_266 : decode cX1_digest 266 = .ok (.getfield 20, 3) := by decide +kernel
theorem dX1_digest_269 : decode cX1_digest 269 = .ok (.iload 4, 2) := by decide +kernel
theorem dX1_digest_271 : decode cX1_digest 271 = .ok (.iaload, 1) := by decide +kernel
theorem dX1_digest_272 : decode cX1_digest 272 = .ok (.i2l, 1) := by decide +kernel
theorem dX1_digest_273 : decode cX1_digest 273 = .ok (.ladd, 1) := by decide +kernel
theorem dX1_digest_274 : decode cX1_digest 274 = .ok (.ldc2_w 158, 3) := by decide +kernel
theorem dX1_digest_277 : decode cX1_digest 277 = .ok (.lmul, 1) := by decide +kernel
theorem dX1_digest_278 : decode cX1_digest 278 = .ok (.aload_n 0, 1) := by decide +kernel
theorem dX1_digest_279 : decode cX1_digest 279 = .ok (.iload 4, 2) := by decide +kernel
theorem dX1_digest_281 : decode cX1_digest 281 = .ok (.invokevirtual 84, 3) := by decide +kernel
theorem dX1_digest_284 : decode cX1_digest 284 = .ok (.i2l, 1) := by decide +kernel
theorem dX1_digest_285 : decode cX1_digest 285 = .ok (.ladd, 1) := by decide +kernel
theorem dX1_digest_286 : decode cX1_digest 286 = .ok (.lstore_n 2, 1) := by decide +kernel
theorem dX1_digest_287 : decode cX1_digest 287 = .ok (.goto 18, 3) := by decide +kernel
theorem dX1_digest_290 : decode cX1_digest 290 = .ok (.lload_n 2, 1) := by decide +kernel
theorem dX1_digest_291 : decode cX1_digest 291 = .ok (.ldc2_w 158, 3) := by decide +kernel
theorem dX1_digest_294 : decode cX1_digest 294 = .ok (.lmul, 1) := by decide +kernel
theorem dX1_digest_295 : decode cX1_digest 295 = .ok (.aload_n 0, 1) := by decide +kernel
theorem dX1_digest_296 : decode cX1_digest 296 = .ok (.getfield 20, 3) := by decide +kernel
theorem dX1_digest_299 : decode cX1_digest 299 = .ok (.iload 4, 2) := by decide +kernel
theorem dX1_digest_301 : decode cX1_digest 301 = .ok (.iaload, 1) := by decide +kernel
theorem dX1_digest_302 : decode cX1_digest 302 = .ok (.i2l, 1) := by decide +kernel
theorem dX1_digest_303 : decode cX1_digest 303 = .ok (.ladd, 1) := by decide +kernel
theorem dX1_digest_304 : decode cX1_digest 304 = .ok (.lstore_n 2, 1) := by decide +kernel
theorem dX1_digest_305 : decode cX1_digest 305 = .ok (.iinc 4 1, 3) := by decide +kernel
theorem dX1_digest_308 : decode cX1_digest 308 = .ok (.goto (-196), 3) := by decide +kernel
theorem dX1_digest_311 : decode cX1_digest 311 = .ok (.iconst 0, 1) := by decide +kernel
theorem dX1_digest_312 : decode cX1_digest 312 = .ok (.istore 4, 2) := by decide +kernel
theorem dX1_digest_314 : decode cX1_digest 314 = .ok (.iload 4, 2) := by decide +kernel
theorem dX1_digest_316 : decode cX1_digest 316 = .ok (.aload_n 0, 1) := by decide +kernel
theorem dX1_digest_317 : decode cX1_digest 317 = .ok (.getfield 57, 3) := by decide +kernel
theorem dX1_digest_320 : decode cX1_digest 320 = .ok (.if_icmp .ge 37, 3) := by decide +kernel
theorem dX1_digest_323 : decode cX1_digest 323 = .ok (.lload_n 2, 1) := by decide +kernel
theorem dX1_digest_324 : decode cX1_digest 324 = .ok (.ldc2_w 158, 3) := by decide +kernel
theorem dX1_digest_327 : decode cX1_digest 327 = .ok (.lmul, 1) := by decide +kernel
theorem dX1_digest_328 : decode cX1_digest 328 = .ok (.aload_n 0, 1) := by decide +kernel
theorem dX1_digest_329 : decode cX1_digest 329 = .ok (.getfield 33, 3) := by decide +kernel
theorem dX1_digest_332 : decode cX1_digest 332 = .ok (.iload 4, 2) := by decide +kernel
theorem dX1_digest_334 : decode cX1_digest 334 = .ok (.iaload, 1) := by decide +kernel
theorem dX1_digest_335 : decode cX1_digest 335 = .ok (.i2l, 1) := by decide +kernel
theorem dX1_digest_336 : decode cX1_digest 336 = .ok (.ladd, 1) := by decide +kernel
theorem dX1_digest_337 : decode cX1_digest 337 = .ok (.ldc2_w 158, 3) := by decide +kernel
theorem dX1_digest_340 : decode cX1_digest 340 = .ok (.lmul, 1) := by decide +kernel
theorem dX1_digest_341 : decode cX1_digest 341 = .ok (.aload_n 0, 1) := by decide +kernel
theorem dX1_digest_342 : decode cX1_digest 342 = .ok (.getfield 36, 3) := by decide +kernel
theorem dX1_digest_345 : decode cX1_digest 345 = .ok (.iload 4, 2) := by decide +kernel
theorem dX1_digest_347 : decode cX1_digest 347 = .ok (.iaload, 1) := by decide +kernel
theorem dX1_digest_348 : decode cX1_digest 348 = .ok (.i2l, 1) := by decide +kernel
theorem dX1_digest_349 : decode cX1_digest 349 = .ok (.ladd, 1) := by decide +kernel
theorem dX1_digest_350 : decode cX1_digest 350 = .ok (.lstore_n 2, 1) := by decide +kernel
theorem dX1_digest_351 : decode cX1_digest 351 = .ok (.iinc 4 1, 3) := by decide +kernel
theorem dX1_digest_354 : decode cX1_digest 354 = .ok (.goto (-40), 3) := by decide +kernel
theorem dX1_digest_357 : decode cX1_digest 357 = .ok (.lload_n 2, 1) := by decide +kernel
theorem dX1_digest_358 : decode cX1_digest 358 = .ok (.lreturn, 1) := by decide +kernel
theorem dJ13_bitCount_95d88_0 : decode cJ13_bitCount_95d88 0 = .ok (.lload_n 0, 1) := by decide +kernel
theorem dJ13_bitCount_95d88_1 : decode cJ13_bitCount_95d88 1 = .ok (.lload_n 0, 1) := by decide +kernel
theorem dJ13_bitCount_95d88_2 : decode cJ13_bitCount_95d88 2 = .ok (.iconst 1, 1) := by decide +kernel
theorem dJ13_bitCount_95d88_3 : decode cJ13_bitCount_95d88 3 = .ok (.lushr, 1) := by decide +kernel
theorem dJ13_bitCount_95d88_4 : decode cJ13_bitCount_95d88 4 = .ok (.ldc2_w 314, 3) := by decide +kernel
theorem dJ13_bitCount_95d88_7 : decode cJ13_bitCount_95d88 7 = .ok (.land, 1) := by decide +kernel
theorem dJ13_bitCount_95d88_8 : decode cJ13_bitCount_95d88 8 = .ok (.lsub, 1) := by decide +kernel
theorem dJ13_bitCount_95d88_9 : decode cJ13_bitCount_95d88 9 = .ok (.lstore_n 0, 1) := by decide +kernel
theorem dJ13_bitCount_95d88_10 : decode cJ13_bitCount_95d88 10 = .ok (.lload_n 0, 1) := by decide +kernel
theorem dJ13_bitCount_95d88_11 : decode cJ13_bitCount_95d88 11 = .ok (.ldc2_w 316, 3) := by decide +kernel
theorem dJ13_bitCount_95d88_14 : decode cJ13_bitCount_95d88 14 = .ok (.land, 1) := by decide +kernel
theorem dJ13_bitCount_95d88_15 : decode cJ13_bitCount_95d88 15 = .ok (.lload_n 0, 1) := by decide +kernel
theorem dJ13_bitCount_95d88_16 : decode cJ13_bitCount_95d88 16 = .ok (.iconst 2, 1) := by decide +kernel
theorem dJ13_bitCount_95d88_17 : decode cJ13_bitCount_95d88 17 = .ok (.lushr, 1) := by decide +kernel
theorem dJ13_bitCount_95d88_18 : decode cJ13_bitCount_95d88 18 = .ok (.ldc2_w 316, 3) := by decide +kernel
theorem dJ13_bitCount_95d88_21 : decode cJ13_bitCount_95d88 21 = .ok (.land, 1) := by decide +kernel
theorem dJ13_bitCount_95d88_22 : decode cJ13_bitCount_95d88 22 = .ok (.ladd, 1) := by decide +kernel
theorem dJ13_bitCount_95d88_23 : decode cJ13_bitCount_95d88 23 = .ok (.lstore_n 0, 1) := by decide +kernel
theorem dJ13_bitCount_95d88_24 : decode cJ13_bitCount_95d88 24 = .ok (.lload_n 0, 1) := by decide +kernel
theorem dJ13_bitCount_95d88_25 : decode cJ13_bitCount_95d88 25 = .ok (.lload_n 0, 1) := by decide +kernel
theorem dJ13_bitCount_95d88_26 : decode cJ13_bitCount_95d88 26 = .ok (.iconst 4, 1) := by decide +kernel
theorem dJ13_bitCount_95d88_27 : decode cJ13_bitCount_95d88 27 = .ok (.lushr, 1) := by decide +kernel
theorem dJ13_bitCount_95d88_28 : decode cJ13_bitCount_95d88 28 = .ok (.ladd, 1) := by decide +kernel
theorem dJ13_bitCount_95d88_29 : decode cJ13_bitCount_95d88 29 = .ok (.ldc2_w 318, 3) := by decide +kernel
theorem dJ13_bitCount_95d88_32 : decode cJ13_bitCount_95d88 32 = .ok (.land, 1) := by decide +kernel
theorem dJ13_bitCount_95d88_33 : decode cJ13_bitCount_95d88 33 = .ok (.lstore_n 0, 1) := by decide +kernel
theorem dJ13_bitCount_95d88_34 : decode cJ13_bitCount_95d88 34 = .ok (.lload_n 0, 1) := by decide +kernel
theorem dJ13_bitCount_95d88_35 : decode cJ13_bitCount_95d88 35 = .ok (.lload_n 0, 1) := by decide +kernel
theorem dJ13_bitCount_95d88_36 : decode cJ13_bitCount_95d88 36 = .ok (.bipush 8, 2) := by decide +kernel
theorem dJ13_bitCount_95d88_38 : decode cJ13_bitCount_95d88 38 = .ok (.lushr, 1) := by decide +kernel
theorem dJ13_bitCount_95d88_39 : decode cJ13_bitCount_95d88 39 = .ok (.ladd, 1) := by decide +kernel
theorem dJ13_bitCount_95d88_40 : decode cJ13_bitCount_95d88 40 = .ok (.lstore_n 0, 1) := by decide +kernel
theorem dJ13_bitCount_95d88_41 : decode cJ13_bitCount_95d88 41 = .ok (.lload_n 0, 1) := by decide +kernel
theorem dJ13_bitCount_95d88_42 : decode cJ13_bitCount_95d88 42 = .ok (.lload_n 0, 1) := by decide +kernel
theorem dJ13_bitCount_95d88_43 : decode cJ13_bitCount_95d88 43 = .ok (.bipush 16, 2) := by decide +kernel
theorem dJ13_bitCount_95d88_45 : decode cJ13_bitCount_95d88 45 = .ok (.lushr, 1) := by decide +kernel
theorem dJ13_bitCount_95d88_46 : decode cJ13_bitCount_95d88 46 = .ok (.ladd, 1) := by decide +kernel
theorem dJ13_bitCount_95d88_47 : decode cJ13_bitCount_95d88 47 = .ok (.lstore_n 0, 1) := by decide +kernel
theorem dJ13_bitCount_95d88_48 : decode cJ13_bitCount_95d88 48 = .ok (.lload_n 0, 1) := by decide +kernel
theorem dJ13_bitCount_95d88_49 : decode cJ13_bitCount_95d88 49 = .ok (.lload_n 0, 1) := by decide +kernel
theorem dJ13_bitCount_95d88_50 : decode cJ13_bitCount_95d88 50 = .ok (.bipush 32, 2) := by decide +kernel
theorem dJ13_bitCount_95d88_52 : decode cJ13_bitCount_95d88 52 = .ok (.lushr, 1) := by decide +kernel
theorem dJ13_bitCount_95d88_53 : decode cJ13_bitCount_95d88 53 = .ok (.ladd, 1) := by decide +kernel
theorem dJ13_bitCount_95d88_54 : decode cJ13_bitCount_95d88 54 = .ok (.lstore_n 0, 1) := by decide +kernel
theorem dJ13_bitCount_95d88_55 : decode cJ13_bitCount_95d88 55 = .ok (.lload_n 0, 1) := by decide +kernel
theorem dJ13_bitCount_95d88_56 : decode cJ13_bitCount_95d88 56 = .ok (.l2i, 1) := by decide +kernel
theorem dJ13_bitCount_95d88_57 : decode cJ13_bitCount_95d88 57 = .ok (.bipush 127, 2) := by decide +kernel
theorem dJ13_bitCount_95d88_59 : decode cJ13_bitCount_95d88 59 = .ok (.iand, 1) := by decide +kernel
theorem dJ13_bitCount_95d88_60 : decode cJ13_bitCount_95d88 60 = .ok (.ireturn, 1) := by decide +kernel
theorem dJ9_max_7cf53_0 : decode cJ9_max_7cf53 0 = .ok (.iload_n 0, 1) := by decide +kernel
theorem dJ9_max_7cf53_1 : decode cJ9_max_7cf53 1 = .ok (.iload_n 1, 1) := by decide +kernel
theorem dJ9_max_7cf53_2 : decode cJ9_max_7cf53 2 = .ok (.if_icmp .lt 7, 3) := by decide +kernel
theorem dJ9_max_7cf53_5 : decode cJ9_max_7cf53 5 = .ok (.iload_n 0, 1) := by decide +kernel
theorem dJ9_max_7cf53_6 : decode cJ9_max_7cf53 6 = .ok (.goto 4, 3) := by decide +kernel
theorem dJ9_max_7cf53_9 : decode cJ9_max_7cf53 9 = .ok (.iload_n 1, 1) := by decide +kernel
theorem dJ9_max_7cf53_10 : decode cJ9_max_7cf53 10 = .ok (.ireturn, 1) := by decide +kernel
theorem dJ9_min_7cf53_0 : decode cJ9_min_7cf53 0 = .ok (.iload_n 0, 1) := by decide +kernel
theorem dJ9_min_7cf53_1 : decode cJ9_min_7cf53 1 = .ok (.iload_n 1, 1) := by decide +kernel
theorem dJ9_min_7cf53_2 : decode cJ9_min_7cf53 2 = .ok (.if_icmp .gt 7, 3) := by decide +kernel
theorem dJ9_min_7cf53_5 : decode cJ9_min_7cf53 5 = .ok (.iload_n 0, 1) := by decide +kernel
theorem dJ9_min_7cf53_6 : decode cJ9_min_7cf53 6 = .ok (.goto 4, 3) := by decide +kernel
theorem dJ9_min_7cf53_9 : decode cJ9_min_7cf53 9 = .ok (.iload_n 1, 1) := by decide +kernel
theorem dJ9_min_7cf53_10 : decode cJ9_min_7cf53 10 = .ok (.ireturn, 1) := by decide +kernel
set_option maxRecDepth 20000 in
theorem ggL_addExam_X0_addExam : GoodIn wsL_addExam wsX0_addExam := goodIn_ca (goodIn_ca (goodIn_r _ [7, 8, 9, 10, 11, 12, 13, 14, 15, 16, 17, 18, 6, 19, 20, 21, 22, 23, 24, 25, 26, 27, 28, 29, 30, 31, 32, 33, 34, 35, 36, 37, 38, 39, 40, 41, 42, 43, 44, 45, 46, 47, 48, 49, 50, 51, 52, 53, 54, 55, 56, 57, 58, 59, 60, 61, 62] (by decide +kernel) (by decide +kernel)) (goodIn_sub (fun _ h => List.mem_cons_of_mem _ (List.mem_append_left _ (List.mem_append_right _ h))) (by decide +kernel))) (goodIn_sub (fun _ h => List.mem_cons_of_mem _ (List.mem_append_right _ h)) (by decide +kernel))
set_option maxRecDepth 20000 in
theorem gL_addExam_X0_addExam : GoodIn wsL_addExam (wsV RL 7 RX0 yX0_addExam wsX0_addExam) := goodIn_app (goodIn_of _ (by decide +kernel)) ggL_addExam_X0_addExam
theorem dL_addExam_0 : decode cL_addExam 0 = .ok (.aload_n 3, 1) := by decide +kernel
theorem dL_addExam_1 : decode cL_addExam 1 = .ok (.iconst 0, 1) := by decide +kernel
theorem dL_addExam_2 : decode cL_addExam 2 = .ok (.aload_n 0, 1) := by decide +kernel
theorem dL_addExam_3 : decode cL_addExam 3 = .ok (.iload_n 1, 1) := by decide +kernel
theorem dL_addExam_4 : decode cL_addExam 4 = .ok (.iload_n 2, 1) := by decide +kernel
theorem dL_addExam_5 : decode cL_addExam 5 = .ok (.invokevirtual 7, 3) := by decide +kernel
theorem dL_addExam_8 : decode cL_addExam 8 = .ok (.i2l, 1) := by decide +kernel
theorem dL_addExam_9 : decode cL_addExam 9 = .ok (.lastore, 1) := by decide +kernel
theorem dL_addExam_10 : decode cL_addExam 10 = .ok (.goto 11, 3) := by decide +kernel
theorem dL_addExam_13 : decode cL_addExam 13 = .ok (.astore 4, 2) := by decide +kernel
theorem dL_addExam_15 : decode cL_addExam 15 = .ok (.iconst 1, 1) := by decide +kernel
theorem dL_addExam_16 : decode cL_addExam 16 = .ok (.ireturn, 1) := by decide +kernel
theorem dL_addExam_17 : decode cL_addExam 17 = .ok (.astore 4, 2) := by decide +kernel
theorem dL_addExam_19 : decode cL_addExam 19 = .ok (.iconst 2, 1) := by decide +kernel
theorem dL_addExam_20 : decode cL_addExam 20 = .ok (.ireturn, 1) := by decide +kernel
theorem dL_addExam_21 : decode cL_addExam 21 = .ok (.iconst 0, 1) := by decide +kernel
theorem dL_addExam_22 : decode cL_addExam 22 = .ok (.ireturn, 1) := by decide +kernel
set_option maxRecDepth 20000 in
theorem ggL_addFork_X0_addFork : GoodIn wsL_addFork wsX0_addFork := goodIn_ca (goodIn_ca (goodIn_ca (goodIn_r _ [8, 9, 10, 11, 12, 13, 14, 15, 16, 17, 7, 18, 19, 20, 21, 22, 23, 24, 25, 26, 27, 28, 29, 30, 31, 32, 33, 34, 35, 36, 37, 38, 39, 40, 41, 42, 43, 44, 45, 46, 47, 48, 49, 50, 51, 52, 53, 54, 55, 56, 57, 58, 59, 60, 61, 62, 63, 64, 65, 66, 67, 68, 69, 70, 71, 72, 73, 74, 75, 76, 77, 78, 79] (by decide +kernel) (by decide +kernel)) (goodIn_sub (fun _ h => List.mem_cons_of_mem _ (List.mem_append_left _ (List.mem_append_left _ (List.mem_append_right _ h)))) (by decide +kernel))) (goodIn_sub (fun _ h => List.mem_cons_of_mem _ (List.mem_append_left _ (List.mem_append_right _ h))) (by decide +kernel))) (goodIn_sub (fun _ h => List.mem_cons_of_mem _ (List.mem_append_right _ h)) (by decide +kernel))
set_option maxRecDepth 20000 in
theorem gL_addFork_X0_addFork : GoodIn wsL_addFork (wsV RL 17 RX0 yX0_addFork wsX0_addFork) := goodIn_app (goodIn_of _ (by decide +kernel)) ggL_addFork_X0_addFork
theorem dL_addFork_0 : decode cL_addFork 0 = .ok (.aload 4, 2) := by decide +kernel
theorem dL_addFork_2 : decode cL_addFork 2 = .ok (.iconst 0, 1) := by decide +kernel
theorem dL_addFork_3 : decode cL_addFork 3 = .ok (.aload_n 0, 1) := by decide +kernel
theorem dL_addFork_4 : decode cL_addFork 4 = .ok (.iload_n 1, 1) := by decide +kernel
theorem dL_addFork_5 : decode cL_addFork 5 = .ok (.iload_n 2, 1) := by decide +kernel
theorem dL_addFork_6 : decode cL_addFork 6 = .ok (.iload_n 3, 1) := by decide +kernel
theorem dL_addFork_7 : decode cL_addFork 7 = .ok (.invokevirtual 17, 3) := by decide +kernel
theorem dL_addFork_10 : decode cL_addFork 10 = .ok (.i2l, 1) := by decide +kernel
theorem dL_addFork_11 : decode cL_addFork 11 = .ok (.lastore, 1) := by decide +kernel
theorem dL_addFork_12 : decode cL_addFork 12 = .ok (.goto 15, 3) := by decide +kernel
theorem dL_addFork_15 : decode cL_addFork 15 = .ok (.astore 5, 2) := by decide +kernel
theorem dL_addFork_17 : decode cL_addFork 17 = .ok (.iconst 1, 1) := by decide +kernel
theorem dL_addFork_18 : decode cL_addFork 18 = .ok (.ireturn, 1) := by decide +kernel
theorem dL_addFork_19 : decode cL_addFork 19 = .ok (.astore 5, 2) := by decide +kernel
theorem dL_addFork_21 : decode cL_addFork 21 = .ok (.iconst 2, 1) := by decide +kernel
theorem dL_addFork_22 : decode cL_addFork 22 = .ok (.ireturn, 1) := by decide +kernel
theorem dL_addFork_23 : decode cL_addFork 23 = .ok (.astore 5, 2) := by decide +kernel
theorem dL_addFork_25 : decode cL_addFork 25 = .ok (.iconst 3, 1) := by decide +kernel
theorem dL_addFork_26 : decode cL_addFork 26 = .ok (.ireturn, 1) := by decide +kernel
theorem dL_addFork_27 : decode cL_addFork 27 = .ok (.iconst 0, 1) := by decide +kernel
theorem dL_addFork_28 : decode cL_addFork 28 = .ok (.ireturn, 1) := by decide +kernel
set_option maxRecDepth 20000 in
theorem ggL_grade_X0_grade : GoodIn wsL_grade wsX0_grade := goodIn_ca (goodIn_ca (goodIn_ca (goodIn_r _ [8, 9, 10, 11, 12, 13, 14, 15, 16, 17, 18, 19, 20, 7, 21, 22, 23, 24, 25, 26, 27, 28, 29, 30, 31, 32, 33, 34, 35, 36, 37, 38, 39, 40, 41, 42, 43, 44, 45, 46, 47, 48, 49, 50, 51, 52, 53, 54, 55, 56, 57, 58, 59, 60, 61, 62, 63, 64, 65, 66, 67, 68, 69, 70, 71, 72, 73, 74, 75, 76, 77, 78, 79, 80, 81, 82, 83, 84, 85, 86, 87, 88, 89] (by decide +kernel) (by decide +kernel)) (goodIn_sub (fun _ h => List.mem_cons_of_mem _ (List.mem_append_left _ (List.mem_append_left _ (List.mem_append_right _ h)))) (by decide +kernel))) (goodIn_sub (fun _ h => List.mem_cons_of_mem _ (List.mem_append_left _ (List.mem_append_right _ h))) (by decide +kernel))) (goodIn_sub (fun _ h => List.mem_cons_of_mem _ (List.mem_append_right _ h)) (by decide +kernel))
set_option maxRecDepth 20000 in
theorem gL_grade_X0_grade : GoodIn wsL_grade (wsV RL 23 RX0 yX0_grade wsX0_grade) := goodIn_app (goodIn_of _ (by decide +kernel)) ggL_grade_X0_grade
theorem dL_grade_0 : decode cL_grade 0 = .ok (.aload_n 3, 1) := by decide +kernel
theorem dL_grade_1 : decode cL_grade 1 = .ok (.iconst 0, 1) := by decide +kernel
theorem dL_grade_2 : decode cL_grade 2 = .ok (.aload_n 0, 1) := by decide +kernel
theorem dL_grade_3 : decode cL_grade 3 = .ok (.iload_n 1, 1) := by decide +kernel
theorem dL_grade_4 : decode cL_grade 4 = .ok (.iload_n 2, 1) := by decide +kernel
theorem dL_grade_5 : decode cL_grade 5 = .ok (.invokevirtual 23, 3) := by decide +kernel
theorem dL_grade_8 : decode cL_grade 8 = .ok (.i2l, 1) := by decide +kernel
theorem dL_grade_9 : decode cL_grade 9 = .ok (.lastore, 1) := by decide +kernel
theorem dL_grade_10 : decode cL_grade 10 = .ok (.goto 15, 3) := by decide +kernel
theorem dL_grade_13 : decode cL_grade 13 = .ok (.astore 4, 2) := by decide +kernel
theorem dL_grade_15 : decode cL_grade 15 = .ok (.iconst 1, 1) := by decide +kernel
theorem dL_grade_16 : decode cL_grade 16 = .ok (.ireturn, 1) := by decide +kernel
theorem dL_grade_17 : decode cL_grade 17 = .ok (.astore 4, 2) := by decide +kernel
theorem dL_grade_19 : decode cL_grade 19 = .ok (.iconst 2, 1) := by decide +kernel
theorem dL_grade_20 : decode cL_grade 20 = .ok (.ireturn, 1) := by decide +kernel
theorem dL_grade_21 : decode cL_grade 21 = .ok (.astore 4, 2) := by decide +kernel
theorem dL_grade_23 : decode cL_grade 23 = .ok (.iconst 3, 1) := by decide +kernel
theorem dL_grade_24 : decode cL_grade 24 = .ok (.ireturn, 1) := by decide +kernel
theorem dL_grade_25 : decode cL_grade 25 = .ok (.iconst 0, 1) := by decide +kernel
theorem dL_grade_26 : decode cL_grade 26 = .ok (.ireturn, 1) := by decide +kernel
set_option maxRecDepth 20000 in
theorem ggL_weigh_X0_weigh : GoodIn wsL_weigh wsX0_weigh := goodIn_ca (goodIn_ca (goodIn_r _ [7, 8, 9, 10, 11, 6, 12, 13, 14, 15, 16, 17, 18, 19, 20, 21, 22, 23, 24, 25, 26, 27, 28, 29, 30, 31, 32, 33, 34, 35, 36, 37, 38, 39, 40, 41, 42, 43, 44, 45, 46, 47, 48, 49, 50, 51, 52, 53, 54, 55, 56] (by decide +kernel) (by decide +kernel)) (goodIn_sub (fun _ h => List.mem_cons_of_mem _ (List.mem_append_left _ (List.mem_append_right _ h))) (by decide +kernel))) (goodIn_sub (fun _ h => List.mem_cons_of_mem _ (List.mem_append_right _ h)) (by decide +kernel))
set_option maxRecDepth 20000 in
theorem gL_weigh_X0_weigh : GoodIn wsL_weigh (wsV RL 26 RX0 yX0_weigh wsX0_weigh) := goodIn_app (goodIn_of _ (by decide +kernel)) ggL_weigh_X0_weigh
theorem dL_weigh_0 : decode cL_weigh 0 = .ok (.aload_n 3, 1) := by decide +kernel
theorem dL_weigh_1 : decode cL_weigh 1 = .ok (.iconst 0, 1) := by decide +kernel
theorem dL_weigh_2 : decode cL_weigh 2 = .ok (.aload_n 0, 1) := by decide +kernel
theorem dL_weigh_3 : decode cL_weigh 3 = .ok (.iload_n 1, 1) := by decide +kernel
theorem dL_weigh_4 : decode cL_weigh 4 = .ok (.iload_n 2, 1) := by decide +kernel
theorem dL_weigh_5 : decode cL_weigh 5 = .ok (.invokevirtual 26, 3) := by decide +kernel
theorem dL_weigh_8 : decode cL_weigh 8 = .ok (.i2l, 1) := by decide +kernel
theorem dL_weigh_9 : decode cL_weigh 9 = .ok (.lastore, 1) := by decide +kernel
theorem dL_weigh_10 : decode cL_weigh 10 = .ok (.goto 11, 3) := by decide +kernel
theorem dL_weigh_13 : decode cL_weigh 13 = .ok (.astore 4, 2) := by decide +kernel
theorem dL_weigh_15 : decode cL_weigh 15 = .ok (.iconst 1, 1) := by decide +kernel
theorem dL_weigh_16 : decode cL_weigh 16 = .ok (.ireturn, 1) := by decide +kernel
theorem dL_weigh_17 : decode cL_weigh 17 = .ok (.astore 4, 2) := by decide +kernel
theorem dL_weigh_19 : decode cL_weigh 19 = .ok (.iconst 2, 1) := by decide +kernel
theorem dL_weigh_20 : decode cL_weigh 20 = .ok (.ireturn, 1) := by decide +kernel
theorem dL_weigh_21 : decode cL_weigh 21 = .ok (.iconst 0, 1) := by decide +kernel
theorem dL_weigh_22 : decode cL_weigh 22 = .ok (.ireturn, 1) := by decide +kernel
set_option maxRecDepth 20000 in
theorem ggL_enroll_X0_enroll : GoodIn wsL_enroll wsX0_enroll := goodIn_ca (goodIn_ca (goodIn_r _ [7, 8, 9, 10, 11, 12, 13, 14, 6, 15, 16, 17, 18, 19, 20, 21, 22, 23, 24, 25, 26, 27, 28, 29, 30, 31, 32, 33, 34, 35, 36, 37, 38, 39] (by decide +kernel) (by decide +kernel)) (goodIn_sub (fun _ h => List.mem_cons_of_mem _ (List.mem_append_left _ (List.mem_append_right _ h))) (by decide +kernel))) (goodIn_sub (fun _ h => List.mem_cons_of_mem _ (List.mem_append_right _ h)) (by decide +kernel))
set_option maxRecDepth 20000 in
theorem gL_enroll_X0_enroll : GoodIn wsL_enroll (wsV RL 29 RX0 yX0_enroll wsX0_enroll) := goodIn_app (goodIn_of _ (by decide +kernel)) ggL_enroll_X0_enroll
theorem dL_enroll_0 : decode cL_enroll 0 = .ok (.aload_n 2, 1) := by decide +kernel
theorem dL_enroll_1 : decode cL_enroll 1 = .ok (.iconst 0, 1) := by decide +kernel
theorem dL_enroll_2 : decode cL_enroll 2 = .ok (.aload_n 0, 1) := by decide +kernel
theorem dL_enroll_3 : decode cL_enroll 3 = .ok (.iload_n 1, 1) := by decide +kernel
theorem dL_enroll_4 : decode cL_enroll 4 = .ok (.invokevirtual 29, 3) := by decide +kernel
theorem dL_enroll_7 : decode cL_enroll 7 = .ok (.i2l, 1) := by decide +kernel
theorem dL_enroll_8 : decode cL_enroll 8 = .ok (.lastore, 1) := by decide +kernel
theorem dL_enroll_9 : decode cL_enroll 9 = .ok (.goto 9, 3) := by decide +kernel
theorem dL_enroll_12 : decode cL_enroll 12 = .ok (.astore_n 3, 1) := by decide +kernel
theorem dL_enroll_13 : decode cL_enroll 13 = .ok (.iconst 1, 1) := by decide +kernel
theorem dL_enroll_14 : decode cL_enroll 14 = .ok (.ireturn, 1) := by decide +kernel
theorem dL_enroll_15 : decode cL_enroll 15 = .ok (.astore_n 3, 1) := by decide +kernel
theorem dL_enroll_16 : decode cL_enroll 16 = .ok (.iconst 2, 1) := by decide +kernel
theorem dL_enroll_17 : decode cL_enroll 17 = .ok (.ireturn, 1) := by decide +kernel
theorem dL_enroll_18 : decode cL_enroll 18 = .ok (.iconst 0, 1) := by decide +kernel
theorem dL_enroll_19 : decode cL_enroll 19 = .ok (.ireturn, 1) := by decide +kernel
set_option maxRecDepth 20000 in
theorem ggL_turn_X0_turn : GoodIn wsL_turn wsX0_turn := goodIn_ca (goodIn_ca (goodIn_r _ [7, 8, 9, 10, 11, 12, 13, 6, 14, 15, 16, 17, 18, 19, 20, 21, 22, 23, 24, 25, 26, 27, 28, 29, 30, 31, 32, 33, 34, 35, 36, 37, 38, 39, 40, 41, 42, 43, 44, 45, 46, 47, 48, 49, 50, 51, 52, 53, 54, 55, 56, 57, 58, 59, 60, 61] (by decide +kernel) (by decide +kernel)) (goodIn_sub (fun _ h => List.mem_cons_of_mem _ (List.mem_append_left _ (List.mem_append_right _ h))) (by decide +kernel))) (goodIn_sub (fun _ h => List.mem_cons_of_mem _ (List.mem_append_right _ h)) (by decide +kernel))
set_option maxRecDepth 20000 in
theorem gL_turn_X0_turn : GoodIn wsL_turn (wsV RL 33 RX0 yX0_turn wsX0_turn) := goodIn_app (goodIn_of _ (by decide +kernel)) ggL_turn_X0_turn
theorem dL_turn_0 : decode cL_turn 0 = .ok (.aload_n 3, 1) := by decide +kernel
theorem dL_turn_1 : decode cL_turn 1 = .ok (.iconst 0, 1) := by decide +kernel
theorem dL_turn_2 : decode cL_turn 2 = .ok (.aload_n 0, 1) := by decide +kernel
theorem dL_turn_3 : decode cL_turn 3 = .ok (.iload_n 1, 1) := by decide +kernel
theorem dL_turn_4 : decode cL_turn 4 = .ok (.iload_n 2, 1) := by decide +kernel
theorem dL_turn_5 : decode cL_turn 5 = .ok (.invokevirtual 33, 3) := by decide +kernel
theorem dL_turn_8 : decode cL_turn 8 = .ok (.i2l, 1) := by decide +kernel
theorem dL_turn_9 : decode cL_turn 9 = .ok (.lastore, 1) := by decide +kernel
theorem dL_turn_10 : decode cL_turn 10 = .ok (.goto 11, 3) := by decide +kernel
theorem dL_turn_13 : decode cL_turn 13 = .ok (.astore 4, 2) := by decide +kernel
theorem dL_turn_15 : decode cL_turn 15 = .ok (.iconst 1, 1) := by decide +kernel
theorem dL_turn_16 : decode cL_turn 16 = .ok (.ireturn, 1) := by decide +kernel
theorem dL_turn_17 : decode cL_turn 17 = .ok (.astore 4, 2) := by decide +kernel
theorem dL_turn_19 : decode cL_turn 19 = .ok (.iconst 2, 1) := by decide +kernel
theorem dL_turn_20 : decode cL_turn 20 = .ok (.ireturn, 1) := by decide +kernel
theorem dL_turn_21 : decode cL_turn 21 = .ok (.iconst 0, 1) := by decide +kernel
theorem dL_turn_22 : decode cL_turn 22 = .ok (.ireturn, 1) := by decide +kernel
set_option maxRecDepth 20000 in
theorem ggL_goBack_X0_goBack : GoodIn wsL_goBack wsX0_goBack := goodIn_ca (goodIn_ca (goodIn_r _ [7, 8, 9, 10, 11, 12, 13, 14, 6, 15, 16, 17, 18, 19, 20, 21, 22, 23, 24, 25, 26, 27, 28, 29, 30, 31, 32, 33, 34, 35, 36, 37, 38, 39, 40, 41, 42, 43, 44, 45, 46, 47] (by decide +kernel) (by decide +kernel)) (goodIn_sub (fun _ h => List.mem_cons_of_mem _ (List.mem_append_left _ (List.mem_append_right _ h))) (by decide +kernel))) (goodIn_sub (fun _ h => List.mem_cons_of_mem _ (List.mem_append_right _ h)) (by decide +kernel))
set_option maxRecDepth 20000 in
theorem gL_goBack_X0_goBack : GoodIn wsL_goBack (wsV RL 37 RX0 yX0_goBack wsX0_goBack) := goodIn_app (goodIn_of _ (by decide +kernel)) ggL_goBack_X0_goBack
theorem dL_goBack_0 : decode cL_goBack 0 = .ok (.aload_n 2, 1) := by decide +kernel
theorem dL_goBack_1 : decode cL_goBack 1 = .ok (.iconst 0, 1) := by decide +kernel
theorem dL_goBack_2 : decode cL_goBack 2 = .ok (.aload_n 0, 1) := by decide +kernel
theorem dL_goBack_3 : decode cL_goBack 3 = .ok (.iload_n 1, 1) := by decide +kernel
theorem dL_goBack_4 : decode cL_goBack 4 = .ok (.invokevirtual 37, 3) := by decide +kernel
theorem dL_goBack_7 : decode cL_goBack 7 = .ok (.i2l, 1) := by decide +kernel
theorem dL_goBack_8 : decode cL_goBack 8 = .ok (.lastore, 1) := by decide +kernel
theorem dL_goBack_9 : decode cL_goBack 9 = .ok (.goto 9, 3) := by decide +kernel
theorem dL_goBack_12 : decode cL_goBack 12 = .ok (.astore_n 3, 1) := by decide +kernel
theorem dL_goBack_13 : decode cL_goBack 13 = .ok (.iconst 1, 1) := by decide +kernel
theorem dL_goBack_14 : decode cL_goBack 14 = .ok (.ireturn, 1) := by decide +kernel
theorem dL_goBack_15 : decode cL_goBack 15 = .ok (.astore_n 3, 1) := by decide +kernel
theorem dL_goBack_16 : decode cL_goBack 16 = .ok (.iconst 2, 1) := by decide +kernel
theorem dL_goBack_17 : decode cL_goBack 17 = .ok (.ireturn, 1) := by decide +kernel
theorem dL_goBack_18 : decode cL_goBack 18 = .ok (.iconst 0, 1) := by decide +kernel
theorem dL_goBack_19 : decode cL_goBack 19 = .ok (.ireturn, 1) := by decide +kernel
set_option maxRecDepth 20000 in
theorem ggL_follow_X0_follow : GoodIn wsL_follow wsX0_follow := goodIn_ca (goodIn_r _ [6, 7, 8, 9, 10, 5, 11, 12, 13, 14, 15, 16, 17, 18, 19, 20, 21, 22, 23, 24, 25, 26, 27, 28, 29, 30, 31, 32, 33, 34, 35, 36, 37, 38, 39, 40, 41, 42, 43, 44, 45, 46, 47, 48, 49, 50, 51, 52, 53, 54, 55, 56, 57, 58, 59, 60, 61, 62, 63, 64, 65, 66, 67, 68, 69, 70, 71, 72, 73] (by decide +kernel) (by decide +kernel)) (goodIn_sub (fun _ h => List.mem_cons_of_mem _ (List.mem_append_right _ h)) (by decide +kernel))
set_option maxRecDepth 20000 in
theorem gL_follow_X0_follow : GoodIn wsL_follow (wsV RL 40 RX0 yX0_follow wsX0_follow) := goodIn_app (goodIn_of _ (by decide +kernel)) ggL_follow_X0_follow
theorem dL_follow_0 : decode cL_follow 0 = .ok (.aload_n 2, 1) := by decide +kernel
theorem dL_follow_1 : decode cL_follow 1 = .ok (.iconst 0, 1) := by decide +kernel
theorem dL_follow_2 : decode cL_follow 2 = .ok (.aload_n 0, 1) := by decide +kernel
theorem dL_follow_3 : decode cL_follow 3 = .ok (.iload_n 1, 1) := by decide +kernel
theorem dL_follow_4 : decode cL_follow 4 = .ok (.invokevirtual 40, 3) := by decide +kernel
theorem dL_follow_7 : decode cL_follow 7 = .ok (.i2l, 1) := by decide +kernel
theorem dL_follow_8 : decode cL_follow 8 = .ok (.lastore, 1) := by decide +kernel
theorem dL_follow_9 : decode cL_follow 9 = .ok (.goto 6, 3) := by decide +kernel
theorem dL_follow_12 : decode cL_follow 12 = .ok (.astore_n 3, 1) := by decide +kernel
theorem dL_follow_13 : decode cL_follow 13 = .ok (.iconst 1, 1) := by decide +kernel
theorem dL_follow_14 : decode cL_follow 14 = .ok (.ireturn, 1) := by decide +kernel
theorem dL_follow_15 : decode cL_follow 15 = .ok (.iconst 0, 1) := by decide +kernel
theorem dL_follow_16 : decode cL_follow 16 = .ok (.ireturn, 1) := by decide +kernel
set_option maxRecDepth 20000 in
theorem ggL_isExam_X0_isExam : GoodIn wsL_isExam wsX0_isExam := goodIn_ca (goodIn_r _ [6, 7, 8, 9, 5, 10, 11, 12, 13, 14, 15, 16, 17, 18, 19, 20, 21, 22, 23, 24, 25, 26, 27, 28, 29, 30, 31, 32, 33, 34, 35, 36, 37, 38, 39] (by decide +kernel) (by decide +kernel)) (goodIn_sub (fun _ h => List.mem_cons_of_mem _ (List.mem_append_right _ h)) (by decide +kernel))
set_option maxRecDepth 20000 in
theorem gL_isExam_X0_isExam : GoodIn wsL_isExam (wsV RL 43 RX0 yX0_isExam wsX0_isExam) := goodIn_app (goodIn_of _ (by decide +kernel)) ggL_isExam_X0_isExam
theorem dL_isExam_0 : decode cL_isExam 0 = .ok (.aload_n 2, 1) := by decide +kernel
theorem dL_isExam_1 : decode cL_isExam 1 = .ok (.iconst 0, 1) := by decide +kernel
theorem dL_isExam_2 : decode cL_isExam 2 = .ok (.aload_n 0, 1) := by decide +kernel
theorem dL_isExam_3 : decode cL_isExam 3 = .ok (.iload_n 1, 1) := by decide +kernel
theorem dL_isExam_4 : decode cL_isExam 4 = .ok (.invokevirtual 43, 3) := by decide +kernel
theorem dL_isExam_7 : decode cL_isExam 7 = .ok (.ifCond .eq 7, 3) := by decide +kernel
theorem dL_isExam_10 : decode cL_isExam 10 = .ok (.lconst 1, 1) := by decide +kernel
theorem dL_isExam_11 : decode cL_isExam 11 = .ok (.goto 4, 3) := by decide +kernel
theorem dL_isExam_14 : decode cL_isExam 14 = .ok (.lconst 0, 1) := by decide +kernel
theorem dL_isExam_15 : decode cL_isExam 15 = .ok (.lastore, 1) := by decide +kernel
theorem dL_isExam_16 : decode cL_isExam 16 = .ok (.goto 6, 3) := by decide +kernel
theorem dL_isExam_19 : decode cL_isExam 19 = .ok (.astore_n 3, 1) := by decide +kernel
theorem dL_isExam_20 : decode cL_isExam 20 = .ok (.iconst 1, 1) := by decide +kernel
theorem dL_isExam_21 : decode cL_isExam 21 = .ok (.ireturn, 1) := by decide +kernel
theorem dL_isExam_22 : decode cL_isExam 22 = .ok (.iconst 0, 1) := by decide +kernel
theorem dL_isExam_23 : decode cL_isExam 23 = .ok (.ireturn, 1) := by decide +kernel
set_option maxRecDepth 20000 in
theorem ggL_isGraded_X0_isGraded : GoodIn wsL_isGraded wsX0_isGraded := goodIn_ca (goodIn_r _ [6, 7, 8, 9, 5, 10, 11, 12, 13, 14, 15, 16, 17, 18, 19, 20, 21, 22, 23, 24, 25, 26, 27, 28, 29, 30, 31, 32, 33, 34, 35, 36, 37, 38, 39, 40, 41, 42, 43, 44, 45, 46, 47, 48, 49, 50, 51] (by decide +kernel) (by decide +kernel)) (goodIn_sub (fun _ h => List.mem_cons_of_mem _ (List.mem_append_right _ h)) (by decide +kernel))
set_option maxRecDepth 20000 in
theorem gL_isGraded_X0_isGraded : GoodIn wsL_isGraded (wsV RL 47 RX0 yX0_isGraded wsX0_isGraded) := goodIn_app (goodIn_of _ (by decide +kernel)) ggL_isGraded_X0_isGraded
theorem dL_isGraded_0 : decode cL_isGraded 0 = .ok (.aload_n 2, 1) := by decide +kernel
theorem dL_isGraded_1 : decode cL_isGraded 1 = .ok (.iconst 0, 1) := by decide +kernel
theorem dL_isGraded_2 : decode cL_isGraded 2 = .ok (.aload_n 0, 1) := by decide +kernel
theorem dL_isGraded_3 : decode cL_isGraded 3 = .ok (.iload_n 1, 1) := by decide +kernel
theorem dL_isGraded_4 : decode cL_isGraded 4 = .ok (.invokevirtual 47, 3) := by decide +kernel
theorem dL_isGraded_7 : decode cL_isGraded 7 = .ok (.ifCond .eq 7, 3) := by decide +kernel
theorem dL_isGraded_10 : decode cL_isGraded 10 = .ok (.lconst 1, 1) := by decide +kernel
theorem dL_isGraded_11 : decode cL_isGraded 11 = .ok (.goto 4, 3) := by decide +kernel
theorem dL_isGraded_14 : decode cL_isGraded 14 = .ok (.lconst 0, 1) := by decide +kernel
theorem dL_isGraded_15 : decode cL_isGraded 15 = .ok (.lastore, 1) := by decide +kernel
theorem dL_isGraded_16 : decode cL_isGraded 16 = .ok (.goto 6, 3) := by decide +kernel
theorem dL_isGraded_19 : decode cL_isGraded 19 = .ok (.astore_n 3, 1) := by decide +kernel
theorem dL_isGraded_20 : decode cL_isGraded 20 = .ok (.iconst 1, 1) := by decide +kernel
theorem dL_isGraded_21 : decode cL_isGraded 21 = .ok (.ireturn, 1) := by decide +kernel
theorem dL_isGraded_22 : decode cL_isGraded 22 = .ok (.iconst 0, 1) := by decide +kernel
theorem dL_isGraded_23 : decode cL_isGraded 23 = .ok (.ireturn, 1) := by decide +kernel
set_option maxRecDepth 20000 in
theorem ggL_gradeOf_X0_gradeOf : GoodIn wsL_gradeOf wsX0_gradeOf := goodIn_ca (goodIn_r _ [6, 7, 8, 9, 10, 5, 11, 12, 13, 14, 15, 16, 17, 18, 19, 20, 21, 22, 23, 24, 25, 26, 27, 28, 29, 30, 31, 32, 33, 34, 35, 36, 37, 38, 39, 40, 41, 42, 43, 44, 45, 46, 47] (by decide +kernel) (by decide +kernel)) (goodIn_sub (fun _ h => List.mem_cons_of_mem _ (List.mem_append_right _ h)) (by decide +kernel))
set_option maxRecDepth 20000 in
theorem gL_gradeOf_X0_gradeOf : GoodIn wsL_gradeOf (wsV RL 50 RX0 yX0_gradeOf wsX0_gradeOf) := goodIn_app (goodIn_of _ (by decide +kernel)) ggL_gradeOf_X0_gradeOf
theorem dL_gradeOf_0 : decode cL_gradeOf 0 = .ok (.aload_n 2, 1) := by decide +kernel
theorem dL_gradeOf_1 : decode cL_gradeOf 1 = .ok (.iconst 0, 1) := by decide +kernel
theorem dL_gradeOf_2 : decode cL_gradeOf 2 = .ok (.aload_n 0, 1) := by decide +kernel
theorem dL_gradeOf_3 : decode cL_gradeOf 3 = .ok (.iload_n 1, 1) := by decide +kernel
theorem dL_gradeOf_4 : decode cL_gradeOf 4 = .ok (.invokevirtual 50, 3) := by decide +kernel
theorem dL_gradeOf_7 : decode cL_gradeOf 7 = .ok (.i2l, 1) := by decide +kernel
theorem dL_gradeOf_8 : decode cL_gradeOf 8 = .ok (.lastore, 1) := by decide +kernel
theorem dL_gradeOf_9 : decode cL_gradeOf 9 = .ok (.goto 6, 3) := by decide +kernel
theorem dL_gradeOf_12 : decode cL_gradeOf 12 = .ok (.astore_n 3, 1) := by decide +kernel
theorem dL_gradeOf_13 : decode cL_gradeOf 13 = .ok (.iconst 1, 1) := by decide +kernel
theorem dL_gradeOf_14 : decode cL_gradeOf 14 = .ok (.ireturn, 1) := by decide +kernel
theorem dL_gradeOf_15 : decode cL_gradeOf 15 = .ok (.iconst 0, 1) := by decide +kernel
theorem dL_gradeOf_16 : decode cL_gradeOf 16 = .ok (.ireturn, 1) := by decide +kernel
set_option maxRecDepth 20000 in
theorem ggL_leftOf_X0_leftOf : GoodIn wsL_leftOf wsX0_leftOf := goodIn_ca (goodIn_r _ [6, 7, 8, 9, 10, 5, 11, 12, 13, 14, 15, 16, 17, 18, 19, 20, 21, 22, 23, 24, 25, 26, 27, 28, 29, 30, 31, 32, 33, 34, 35, 36, 37, 38, 39, 40, 41, 42, 43, 44, 45, 46, 47] (by decide +kernel) (by decide +kernel)) (goodIn_sub (fun _ h => List.mem_cons_of_mem _ (List.mem_append_right _ h)) (by decide +kernel))
set_option maxRecDepth 20000 in
theorem gL_leftOf_X0_leftOf : GoodIn wsL_leftOf (wsV RL 53 RX0 yX0_leftOf wsX0_leftOf) := goodIn_app (goodIn_of _ (by decide +kernel)) ggL_leftOf_X0_leftOf
theorem dL_leftOf_0 : decode cL_leftOf 0 = .ok (.aload_n 2, 1) := by decide +kernel
theorem dL_leftOf_1 : decode cL_leftOf 1 = .ok (.iconst 0, 1) := by decide +kernel
theorem dL_leftOf_2 : decode cL_leftOf 2 = .ok (.aload_n 0, 1) := by decide +kernel
theorem dL_leftOf_3 : decode cL_leftOf 3 = .ok (.iload_n 1, 1) := by decide +kernel
theorem dL_leftOf_4 : decode cL_leftOf 4 = .ok (.invokevirtual 53, 3) := by decide +kernel
theorem dL_leftOf_7 : decode cL_leftOf 7 = .ok (.i2l, 1) := by decide +kernel
theorem dL_leftOf_8 : decode cL_leftOf 8 = .ok (.lastore, 1) := by decide +kernel
theorem dL_leftOf_9 : decode cL_leftOf 9 = .ok (.goto 6, 3) := by decide +kernel
theorem dL_leftOf_12 : decode cL_leftOf 12 = .ok (.astore_n 3, 1) := by decide +kernel
theorem dL_leftOf_13 : decode cL_leftOf 13 = .ok (.iconst 1, 1) := by decide +kernel
theorem dL_leftOf_14 : decode cL_leftOf 14 = .ok (.ireturn, 1) := by decide +kernel
theorem dL_leftOf_15 : decode cL_leftOf 15 = .ok (.iconst 0, 1) := by decide +kernel
theorem dL_leftOf_16 : decode cL_leftOf 16 = .ok (.ireturn, 1) := by decide +kernel
set_option maxRecDepth 20000 in
theorem ggL_rightOf_X0_rightOf : GoodIn wsL_rightOf wsX0_rightOf := goodIn_ca (goodIn_r _ [6, 7, 8, 9, 10, 5, 11, 12, 13, 14, 15, 16, 17, 18, 19, 20, 21, 22, 23, 24, 25, 26, 27, 28, 29, 30, 31, 32, 33, 34, 35, 36, 37, 38, 39, 40, 41, 42, 43, 44, 45, 46, 47] (by decide +kernel) (by decide +kernel)) (goodIn_sub (fun _ h => List.mem_cons_of_mem _ (List.mem_append_right _ h)) (by decide +kernel))
set_option maxRecDepth 20000 in
theorem gL_rightOf_X0_rightOf : GoodIn wsL_rightOf (wsV RL 56 RX0 yX0_rightOf wsX0_rightOf) := goodIn_app (goodIn_of _ (by decide +kernel)) ggL_rightOf_X0_rightOf
theorem dL_rightOf_0 : decode cL_rightOf 0 = .ok (.aload_n 2, 1) := by decide +kernel
theorem dL_rightOf_1 : decode cL_rightOf 1 = .ok (.iconst 0, 1) := by decide +kernel
theorem dL_rightOf_2 : decode cL_rightOf 2 = .ok (.aload_n 0, 1) := by decide +kernel
theorem dL_rightOf_3 : decode cL_rightOf 3 = .ok (.iload_n 1, 1) := by decide +kernel
theorem dL_rightOf_4 : decode cL_rightOf 4 = .ok (.invokevirtual 56, 3) := by decide +kernel
theorem dL_rightOf_7 : decode cL_rightOf 7 = .ok (.i2l, 1) := by decide +kernel
theorem dL_rightOf_8 : decode cL_rightOf 8 = .ok (.lastore, 1) := by decide +kernel
theorem dL_rightOf_9 : decode cL_rightOf 9 = .ok (.goto 6, 3) := by decide +kernel
theorem dL_rightOf_12 : decode cL_rightOf 12 = .ok (.astore_n 3, 1) := by decide +kernel
theorem dL_rightOf_13 : decode cL_rightOf 13 = .ok (.iconst 1, 1) := by decide +kernel
theorem dL_rightOf_14 : decode cL_rightOf 14 = .ok (.ireturn, 1) := by decide +kernel
theorem dL_rightOf_15 : decode cL_rightOf 15 = .ok (.iconst 0, 1) := by decide +kernel
theorem dL_rightOf_16 : decode cL_rightOf 16 = .ok (.ireturn, 1) := by decide +kernel
set_option maxRecDepth 20000 in
theorem ggL_weightOf_X0_weightOf : GoodIn wsL_weightOf wsX0_weightOf := goodIn_ca (goodIn_r _ [6, 7, 8, 9, 10, 5, 11, 12, 13, 14, 15, 16, 17, 18, 19, 20, 21, 22, 23, 24, 25, 26, 27, 28, 29, 30, 31, 32, 33, 34, 35, 36, 37, 38, 39, 40, 41, 42, 43, 44, 45, 46, 47] (by decide +kernel) (by decide +kernel)) (goodIn_sub (fun _ h => List.mem_cons_of_mem _ (List.mem_append_right _ h)) (by decide +kernel))
set_option maxRecDepth 20000 in
theorem gL_weightOf_X0_weightOf : GoodIn wsL_weightOf (wsV RL 59 RX0 yX0_weightOf wsX0_weightOf) := goodIn_app (goodIn_of _ (by decide +kernel)) ggL_weightOf_X0_weightOf
theorem dL_weightOf_0 : decode cL_weightOf 0 = .ok (.aload_n 2, 1) := by decide +kernel
theorem dL_weightOf_1 : decode cL_weightOf 1 = .ok (.iconst 0, 1) := by decide +kernel
theorem dL_weightOf_2 : decode cL_weightOf 2 = .ok (.aload_n 0, 1) := by decide +kernel
theorem dL_weightOf_3 : decode cL_weightOf 3 = .ok (.iload_n 1, 1) := by decide +kernel
theorem dL_weightOf_4 : decode cL_weightOf 4 = .ok (.invokevirtual 59, 3) := by decide +kernel
theorem dL_weightOf_7 : decode cL_weightOf 7 = .ok (.i2l, 1) := by decide +kernel
theorem dL_weightOf_8 : decode cL_weightOf 8 = .ok (.lastore, 1) := by decide +kernel
theorem dL_weightOf_9 : decode cL_weightOf 9 = .ok (.goto 6, 3) := by decide +kernel
theorem dL_weightOf_12 : decode cL_weightOf 12 = .ok (.astore_n 3, 1) := by decide +kernel
theorem dL_weightOf_13 : decode cL_weightOf 13 = .ok (.iconst 1, 1) := by decide +kernel
theorem dL_weightOf_14 : decode cL_weightOf 14 = .ok (.ireturn, 1) := by decide +kernel
theorem dL_weightOf_15 : decode cL_weightOf 15 = .ok (.iconst 0, 1) := by decide +kernel
theorem dL_weightOf_16 : decode cL_weightOf 16 = .ok (.ireturn, 1) := by decide +kernel
set_option maxRecDepth 20000 in
theorem ggL_placeOf_X0_placeOf : GoodIn wsL_placeOf wsX0_placeOf := goodIn_ca (goodIn_r _ [6, 7, 8, 9, 10, 5, 11, 12, 13, 14, 15, 16, 17, 18, 19, 20, 21, 22, 23, 24, 25, 26, 27, 28, 29, 30, 31, 32, 33, 34, 35] (by decide +kernel) (by decide +kernel)) (goodIn_sub (fun _ h => List.mem_cons_of_mem _ (List.mem_append_right _ h)) (by decide +kernel))
set_option maxRecDepth 20000 in
theorem gL_placeOf_X0_placeOf : GoodIn wsL_placeOf (wsV RL 62 RX0 yX0_placeOf wsX0_placeOf) := goodIn_app (goodIn_of _ (by decide +kernel)) ggL_placeOf_X0_placeOf
theorem dL_placeOf_0 : decode cL_placeOf 0 = .ok (.aload_n 2, 1) := by decide +kernel
theorem dL_placeOf_1 : decode cL_placeOf 1 = .ok (.iconst 0, 1) := by decide +kernel
theorem dL_placeOf_2 : decode cL_placeOf 2 = .ok (.aload_n 0, 1) := by decide +kernel
theorem dL_placeOf_3 : decode cL_placeOf 3 = .ok (.iload_n 1, 1) := by decide +kernel
theorem dL_placeOf_4 : decode cL_placeOf 4 = .ok (.invokevirtual 62, 3) := by decide +kernel
theorem dL_placeOf_7 : decode cL_placeOf 7 = .ok (.i2l, 1) := by decide +kernel
theorem dL_placeOf_8 : decode cL_placeOf 8 = .ok (.lastore, 1) := by decide +kernel
theorem dL_placeOf_9 : decode cL_placeOf 9 = .ok (.goto 6, 3) := by decide +kernel
theorem dL_placeOf_12 : decode cL_placeOf 12 = .ok (.astore_n 3, 1) := by decide +kernel
theorem dL_placeOf_13 : decode cL_placeOf 13 = .ok (.iconst 1, 1) := by decide +kernel
theorem dL_placeOf_14 : decode cL_placeOf 14 = .ok (.ireturn, 1) := by decide +kernel
theorem dL_placeOf_15 : decode cL_placeOf 15 = .ok (.iconst 0, 1) := by decide +kernel
theorem dL_placeOf_16 : decode cL_placeOf 16 = .ok (.ireturn, 1) := by decide +kernel
set_option maxRecDepth 20000 in
theorem ggL_passedBy_X0_passedBy : GoodIn wsL_passedBy wsX0_passedBy := goodIn_ca (goodIn_r _ [6, 7, 8, 9, 10, 5, 11, 12, 13, 14, 15, 16, 17, 18, 19, 20, 21, 22, 23, 24, 25, 26, 27, 28, 29, 30, 31, 32, 33, 34, 35] (by decide +kernel) (by decide +kernel)) (goodIn_sub (fun _ h => List.mem_cons_of_mem _ (List.mem_append_right _ h)) (by decide +kernel))
set_option maxRecDepth 20000 in
theorem gL_passedBy_X0_passedBy : GoodIn wsL_passedBy (wsV RL 65 RX0 yX0_passedBy wsX0_passedBy) := goodIn_app (goodIn_of _ (by decide +kernel)) ggL_passedBy_X0_passedBy
theorem dL_passedBy_0 : decode cL_passedBy 0 = .ok (.aload_n 2, 1) := by decide +kernel
theorem dL_passedBy_1 : decode cL_passedBy 1 = .ok (.iconst 0, 1) := by decide +kernel
theorem dL_passedBy_2 : decode cL_passedBy 2 = .ok (.aload_n 0, 1) := by decide +kernel
theorem dL_passedBy_3 : decode cL_passedBy 3 = .ok (.iload_n 1, 1) := by decide +kernel
theorem dL_passedBy_4 : decode cL_passedBy 4 = .ok (.invokevirtual 65, 3) := by decide +kernel
theorem dL_passedBy_7 : decode cL_passedBy 7 = .ok (.i2l, 1) := by decide +kernel
theorem dL_passedBy_8 : decode cL_passedBy 8 = .ok (.lastore, 1) := by decide +kernel
theorem dL_passedBy_9 : decode cL_passedBy 9 = .ok (.goto 6, 3) := by decide +kernel
theorem dL_passedBy_12 : decode cL_passedBy 12 = .ok (.astore_n 3, 1) := by decide +kernel
theorem dL_passedBy_13 : decode cL_passedBy 13 = .ok (.iconst 1, 1) := by decide +kernel
theorem dL_passedBy_14 : decode cL_passedBy 14 = .ok (.ireturn, 1) := by decide +kernel
theorem dL_passedBy_15 : decode cL_passedBy 15 = .ok (.iconst 0, 1) := by decide +kernel
theorem dL_passedBy_16 : decode cL_passedBy 16 = .ok (.ireturn, 1) := by decide +kernel
set_option maxRecDepth 20000 in
theorem ggL_sureGrade_X0_sureGrade : GoodIn wsL_sureGrade wsX0_sureGrade := goodIn_ca (goodIn_r _ [6, 7, 8, 9, 10, 5, 11, 12, 13, 14, 15, 16, 17, 18, 19, 20, 21, 22, 23, 24, 25, 26, 27, 28, 29, 30, 31, 32, 33, 34, 35] (by decide +kernel) (by decide +kernel)) (goodIn_sub (fun _ h => List.mem_cons_of_mem _ (List.mem_append_right _ h)) (by decide +kernel))
set_option maxRecDepth 20000 in
theorem gL_sureGrade_X0_sureGrade : GoodIn wsL_sureGrade (wsV RL 68 RX0 yX0_sureGrade wsX0_sureGrade) := goodIn_app (goodIn_of _ (by decide +kernel)) ggL_sureGrade_X0_sureGrade
theorem dL_sureGrade_0 : decode cL_sureGrade 0 = .ok (.aload_n 2, 1) := by decide +kernel
theorem dL_sureGrade_1 : decode cL_sureGrade 1 = .ok (.iconst 0, 1) := by decide +kernel
theorem dL_sureGrade_2 : decode cL_sureGrade 2 = .ok (.aload_n 0, 1) := by decide +kernel
theorem dL_sureGrade_3 : decode cL_sureGrade 3 = .ok (.iload_n 1, 1) := by decide +kernel
theorem dL_sureGrade_4 : decode cL_sureGrade 4 = .ok (.invokevirtual 68, 3) := by decide +kernel
theorem dL_sureGrade_7 : decode cL_sureGrade 7 = .ok (.i2l, 1) := by decide +kernel
theorem dL_sureGrade_8 : decode cL_sureGrade 8 = .ok (.lastore, 1) := by decide +kernel
theorem dL_sureGrade_9 : decode cL_sureGrade 9 = .ok (.goto 6, 3) := by decide +kernel
theorem dL_sureGrade_12 : decode cL_sureGrade 12 = .ok (.astore_n 3, 1) := by decide +kernel
theorem dL_sureGrade_13 : decode cL_sureGrade 13 = .ok (.iconst 1, 1) := by decide +kernel
theorem dL_sureGrade_14 : decode cL_sureGrade 14 = .ok (.ireturn, 1) := by decide +kernel
theorem dL_sureGrade_15 : decode cL_sureGrade 15 = .ok (.iconst 0, 1) := by decide +kernel
theorem dL_sureGrade_16 : decode cL_sureGrade 16 = .ok (.ireturn, 1) := by decide +kernel
set_option maxRecDepth 20000 in
theorem ggL_hope_X0_hope : GoodIn wsL_hope wsX0_hope := goodIn_ca (goodIn_r _ [6, 7, 8, 9, 10, 5, 11, 12, 13, 14, 15, 16, 17, 18, 19, 20, 21, 22, 23, 24, 25, 26, 27, 28, 29, 30, 31, 32, 33, 34, 35] (by decide +kernel) (by decide +kernel)) (goodIn_sub (fun _ h => List.mem_cons_of_mem _ (List.mem_append_right _ h)) (by decide +kernel))
set_option maxRecDepth 20000 in
theorem gL_hope_X0_hope : GoodIn wsL_hope (wsV RL 71 RX0 yX0_hope wsX0_hope) := goodIn_app (goodIn_of _ (by decide +kernel)) ggL_hope_X0_hope
theorem dL_hope_0 : decode cL_hope 0 = .ok (.aload_n 2, 1) := by decide +kernel
theorem dL_hope_1 : decode cL_hope 1 = .ok (.iconst 0, 1) := by decide +kernel
theorem dL_hope_2 : decode cL_hope 2 = .ok (.aload_n 0, 1) := by decide +kernel
theorem dL_hope_3 : decode cL_hope 3 = .ok (.iload_n 1, 1) := by decide +kernel
theorem dL_hope_4 : decode cL_hope 4 = .ok (.invokevirtual 71, 3) := by decide +kernel
theorem dL_hope_7 : decode cL_hope 7 = .ok (.i2l, 1) := by decide +kernel
theorem dL_hope_8 : decode cL_hope 8 = .ok (.lastore, 1) := by decide +kernel
theorem dL_hope_9 : decode cL_hope 9 = .ok (.goto 6, 3) := by decide +kernel
theorem dL_hope_12 : decode cL_hope 12 = .ok (.astore_n 3, 1) := by decide +kernel
theorem dL_hope_13 : decode cL_hope 13 = .ok (.iconst 1, 1) := by decide +kernel
theorem dL_hope_14 : decode cL_hope 14 = .ok (.ireturn, 1) := by decide +kernel
theorem dL_hope_15 : decode cL_hope 15 = .ok (.iconst 0, 1) := by decide +kernel
theorem dL_hope_16 : decode cL_hope 16 = .ok (.ireturn, 1) := by decide +kernel
set_option maxRecDepth 20000 in
theorem ggL_reaches_X0_reaches : GoodIn wsL_reaches wsX0_reaches := goodIn_ca (goodIn_r _ [6, 7, 8, 9, 10, 5, 11, 12, 13, 14, 15, 16, 17, 18, 19, 20, 21, 22, 23, 24, 25, 26, 27, 28, 29, 30, 31, 32, 33, 34, 35, 36, 37, 38] (by decide +kernel) (by decide +kernel)) (goodIn_sub (fun _ h => List.mem_cons_of_mem _ (List.mem_append_right _ h)) (by decide +kernel))
set_option maxRecDepth 20000 in
theorem gL_reaches_X0_reaches : GoodIn wsL_reaches (wsV RL 74 RX0 yX0_reaches wsX0_reaches) := goodIn_app (goodIn_of _ (by decide +kernel)) ggL_reaches_X0_reaches
theorem dL_reaches_0 : decode cL_reaches 0 = .ok (.aload_n 3, 1) := by decide +kernel
theorem dL_reaches_1 : decode cL_reaches 1 = .ok (.iconst 0, 1) := by decide +kernel
theorem dL_reaches_2 : decode cL_reaches 2 = .ok (.aload_n 0, 1) := by decide +kernel
theorem dL_reaches_3 : decode cL_reaches 3 = .ok (.iload_n 1, 1) := by decide +kernel
theorem dL_reaches_4 : decode cL_reaches 4 = .ok (.iload_n 2, 1) := by decide +kernel
theorem dL_reaches_5 : decode cL_reaches 5 = .ok (.invokevirtual 74, 3) := by decide +kernel
theorem dL_reaches_8 : decode cL_reaches 8 = .ok (.ifCond .eq 7, 3) := by decide +kernel
theorem dL_reaches_11 : decode cL_reaches 11 = .ok (.lconst 1, 1) := by decide +kernel
theorem dL_reaches_12 : decode cL_reaches 12 = .ok (.goto 4, 3) := by decide +kernel
theorem dL_reaches_15 : decode cL_reaches 15 = .ok (.lconst 0, 1) := by decide +kernel
theorem dL_reaches_16 : decode cL_reaches 16 = .ok (.lastore, 1) := by decide +kernel
theorem dL_reaches_17 : decode cL_reaches 17 = .ok (.goto 7, 3) := by decide +kernel
theorem dL_reaches_20 : decode cL_reaches 20 = .ok (.astore 4, 2) := by decide +kernel
theorem dL_reaches_22 : decode cL_reaches 22 = .ok (.iconst 1, 1) := by decide +kernel
theorem dL_reaches_23 : decode cL_reaches 23 = .ok (.ireturn, 1) := by decide +kernel
theorem dL_reaches_24 : decode cL_reaches 24 = .ok (.iconst 0, 1) := by decide +kernel
theorem dL_reaches_25 : decode cL_reaches 25 = .ok (.ireturn, 1) := by decide +kernel
set_option maxRecDepth 20000 in
theorem ggL_examsFrom_X0_examsFrom : GoodIn wsL_examsFrom wsX0_examsFrom := goodIn_ca (goodIn_r _ [6, 7, 8, 9, 10, 11, 5, 12, 13, 14, 15, 16, 17, 18, 19, 20, 21, 22, 23, 24, 25, 26, 27, 28, 29, 30, 31, 32, 33, 34, 35, 36, 37, 38, 39, 40, 41, 42, 43] (by decide +kernel) (by decide +kernel)) (goodIn_sub (fun _ h => List.mem_cons_of_mem _ (List.mem_append_right _ h)) (by decide +kernel))
set_option maxRecDepth 20000 in
theorem gL_examsFrom_X0_examsFrom : GoodIn wsL_examsFrom (wsV RL 78 RX0 yX0_examsFrom wsX0_examsFrom) := goodIn_app (goodIn_of _ (by decide +kernel)) ggL_examsFrom_X0_examsFrom
theorem dL_examsFrom_0 : decode cL_examsFrom 0 = .ok (.aload_n 2, 1) := by decide +kernel
theorem dL_examsFrom_1 : decode cL_examsFrom 1 = .ok (.iconst 0, 1) := by decide +kernel
theorem dL_examsFrom_2 : decode cL_examsFrom 2 = .ok (.aload_n 0, 1) := by decide +kernel
theorem dL_examsFrom_3 : decode cL_examsFrom 3 = .ok (.iload_n 1, 1) := by decide +kernel
theorem dL_examsFrom_4 : decode cL_examsFrom 4 = .ok (.invokevirtual 78, 3) := by decide +kernel
theorem dL_examsFrom_7 : decode cL_examsFrom 7 = .ok (.i2l, 1) := by decide +kernel
theorem dL_examsFrom_8 : decode cL_examsFrom 8 = .ok (.lastore, 1) := by decide +kernel
theorem dL_examsFrom_9 : decode cL_examsFrom 9 = .ok (.goto 6, 3) := by decide +kernel
theorem dL_examsFrom_12 : decode cL_examsFrom 12 = .ok (.astore_n 3, 1) := by decide +kernel
theorem dL_examsFrom_13 : decode cL_examsFrom 13 = .ok (.iconst 1, 1) := by decide +kernel
theorem dL_examsFrom_14 : decode cL_examsFrom 14 = .ok (.ireturn, 1) := by decide +kernel
theorem dL_examsFrom_15 : decode cL_examsFrom 15 = .ok (.iconst 0, 1) := by decide +kernel
theorem dL_examsFrom_16 : decode cL_examsFrom 16 = .ok (.ireturn, 1) := by decide +kernel
set_option maxRecDepth 20000 in
theorem ggL_risk_X0_risk : GoodIn wsL_risk wsX0_risk := goodIn_ca (goodIn_r _ [6, 7, 8, 9, 5, 10, 11, 12, 13, 14, 15, 16, 17, 18, 19, 20, 21, 22, 23, 24, 25, 26, 27, 28, 29, 30, 31, 32, 33, 34, 35, 36, 37, 38, 39, 40, 41, 42, 43, 44, 45, 46, 47, 48, 49, 50, 51, 52, 53, 54, 55, 56, 57, 58, 59, 60, 61, 62, 63] (by decide +kernel) (by decide +kernel)) (goodIn_sub (fun _ h => List.mem_cons_of_mem _ (List.mem_append_right _ h)) (by decide +kernel))
set_option maxRecDepth 20000 in
theorem gL_risk_X0_risk : GoodIn wsL_risk (wsV RL 81 RX0 yX0_risk wsX0_risk) := goodIn_app (goodIn_of _ (by decide +kernel)) ggL_risk_X0_risk
theorem dL_risk_0 : decode cL_risk 0 = .ok (.aload_n 3, 1) := by decide +kernel
theorem dL_risk_1 : decode cL_risk 1 = .ok (.iconst 0, 1) := by decide +kernel
theorem dL_risk_2 : decode cL_risk 2 = .ok (.aload_n 0, 1) := by decide +kernel
theorem dL_risk_3 : decode cL_risk 3 = .ok (.iload_n 1, 1) := by decide +kernel
theorem dL_risk_4 : decode cL_risk 4 = .ok (.iload_n 2, 1) := by decide +kernel
theorem dL_risk_5 : decode cL_risk 5 = .ok (.invokevirtual 81, 3) := by decide +kernel
theorem dL_risk_8 : decode cL_risk 8 = .ok (.i2l, 1) := by decide +kernel
theorem dL_risk_9 : decode cL_risk 9 = .ok (.lastore, 1) := by decide +kernel
theorem dL_risk_10 : decode cL_risk 10 = .ok (.goto 7, 3) := by decide +kernel
theorem dL_risk_13 : decode cL_risk 13 = .ok (.astore 4, 2) := by decide +kernel
theorem dL_risk_15 : decode cL_risk 15 = .ok (.iconst 1, 1) := by decide +kernel
theorem dL_risk_16 : decode cL_risk 16 = .ok (.ireturn, 1) := by decide +kernel
theorem dL_risk_17 : decode cL_risk 17 = .ok (.iconst 0, 1) := by decide +kernel
theorem dL_risk_18 : decode cL_risk 18 = .ok (.ireturn, 1) := by decide +kernel
set_option maxRecDepth 20000 in
theorem ggL_planTurnsRight_X0_planTurnsRight : GoodIn wsL_planTurnsRight wsX0_planTurnsRight := goodIn_ca (goodIn_r _ [6, 7, 8, 9, 5, 10, 11, 12, 13, 14, 15, 16, 17, 18, 19, 20, 21, 22, 23, 24, 25, 26, 27, 28, 29, 30, 31, 32, 33, 34, 35, 36, 37, 38, 39, 40, 41, 42, 43, 44, 45, 46, 47, 48, 49, 50, 51, 52, 53, 54, 55, 56, 57, 58, 59, 60, 61, 62, 63, 64, 65, 66, 67] (by decide +kernel) (by decide +kernel)) (goodIn_sub (fun _ h => List.mem_cons_of_mem _ (List.mem_append_right _ h)) (by decide +kernel))
set_option maxRecDepth 20000 in
theorem gL_planTurnsRight_X0_planTurnsRight : GoodIn wsL_planTurnsRight (wsV RL 84 RX0 yX0_planTurnsRight wsX0_planTurnsRight) := goodIn_app (goodIn_of _ (by decide +kernel)) ggL_planTurnsRight_X0_planTurnsRight
theorem dL_planTurnsRight_0 : decode cL_planTurnsRight 0 = .ok (.aload_n 2, 1) := by decide +kernel
theorem dL_planTurnsRight_1 : decode cL_planTurnsRight 1 = .ok (.iconst 0, 1) := by decide +kernel
theorem dL_planTurnsRight_2 : decode cL_planTurnsRight 2 = .ok (.aload_n 0, 1) := by decide +kernel
theorem dL_planTurnsRight_3 : decode cL_planTurnsRight 3 = .ok (.iload_n 1, 1) := by decide +kernel
theorem dL_planTurnsRight_4 : decode cL_planTurnsRight 4 = .ok (.invokevirtual 84, 3) := by decide +kernel
theorem dL_planTurnsRight_7 : decode cL_planTurnsRight 7 = .ok (.ifCond .eq 7, 3) := by decide +kernel
theorem dL_planTurnsRight_10 : decode cL_planTurnsRight 10 = .ok (.lconst 1, 1) := by decide +kernel
theorem dL_planTurnsRight_11 : decode cL_planTurnsRight 11 = .ok (.goto 4, 3) := by decide +kernel
theorem dL_planTurnsRight_14 : decode cL_planTurnsRight 14 = .ok (.lconst 0, 1) := by decide +kernel
theorem dL_planTurnsRight_15 : decode cL_planTurnsRight 15 = .ok (.lastore, 1) := by decide +kernel
theorem dL_planTurnsRight_16 : decode cL_planTurnsRight 16 = .ok (.goto 6, 3) := by decide +kernel
theorem dL_planTurnsRight_19 : decode cL_planTurnsRight 19 = .ok (.astore_n 3, 1) := by decide +kernel
theorem dL_planTurnsRight_20 : decode cL_planTurnsRight 20 = .ok (.iconst 1, 1) := by decide +kernel
theorem dL_planTurnsRight_21 : decode cL_planTurnsRight 21 = .ok (.ireturn, 1) := by decide +kernel
theorem dL_planTurnsRight_22 : decode cL_planTurnsRight 22 = .ok (.iconst 0, 1) := by decide +kernel
theorem dL_planTurnsRight_23 : decode cL_planTurnsRight 23 = .ok (.ireturn, 1) := by decide +kernel
set_option maxRecDepth 20000 in
theorem ggL_planLeadsTo_X0_planLeadsTo : GoodIn wsL_planLeadsTo wsX0_planLeadsTo := goodIn_ca (goodIn_r _ [6, 7, 8, 9, 5, 10, 11, 12, 13, 14, 15, 16, 17, 18, 19, 20, 21, 22, 23, 24, 25, 26, 27, 28, 29, 30, 31, 32, 33, 34, 35, 36, 37, 38, 39, 40, 41, 42, 43, 44, 45, 46, 47, 48, 49, 50, 51, 52, 53, 54, 55, 56, 57, 58, 59, 60, 61, 62, 63] (by decide +kernel) (by decide +kernel)) (goodIn_sub (fun _ h => List.mem_cons_of_mem _ (List.mem_append_right _ h)) (by decide +kernel))
set_option maxRecDepth 20000 in
theorem gL_planLeadsTo_X0_planLeadsTo : GoodIn wsL_planLeadsTo (wsV RL 87 RX0 yX0_planLeadsTo wsX0_planLeadsTo) := goodIn_app (goodIn_of _ (by decide +kernel)) ggL_planLeadsTo_X0_planLeadsTo
theorem dL_planLeadsTo_0 : decode cL_planLeadsTo 0 = .ok (.aload_n 2, 1) := by decide +kernel
theorem dL_planLeadsTo_1 : decode cL_planLeadsTo 1 = .ok (.iconst 0, 1) := by decide +kernel
theorem dL_planLeadsTo_2 : decode cL_planLeadsTo 2 = .ok (.aload_n 0, 1) := by decide +kernel
theorem dL_planLeadsTo_3 : decode cL_planLeadsTo 3 = .ok (.iload_n 1, 1) := by decide +kernel
theorem dL_planLeadsTo_4 : decode cL_planLeadsTo 4 = .ok (.invokevirtual 87, 3) := by decide +kernel
theorem dL_planLeadsTo_7 : decode cL_planLeadsTo 7 = .ok (.i2l, 1) := by decide +kernel
theorem dL_planLeadsTo_8 : decode cL_planLeadsTo 8 = .ok (.lastore, 1) := by decide +kernel
theorem dL_planLeadsTo_9 : decode cL_planLeadsTo 9 = .ok (.goto 6, 3) := by decide +kernel
theorem dL_planLeadsTo_12 : decode cL_planLeadsTo 12 = .ok (.astore_n 3, 1) := by decide +kernel
theorem dL_planLeadsTo_13 : decode cL_planLeadsTo 13 = .ok (.iconst 1, 1) := by decide +kernel
theorem dL_planLeadsTo_14 : decode cL_planLeadsTo 14 = .ok (.ireturn, 1) := by decide +kernel
theorem dL_planLeadsTo_15 : decode cL_planLeadsTo 15 = .ok (.iconst 0, 1) := by decide +kernel
theorem dL_planLeadsTo_16 : decode cL_planLeadsTo 16 = .ok (.ireturn, 1) := by decide +kernel
set_option maxRecDepth 20000 in
theorem ggL_hindsight_X0_hindsight : GoodIn wsL_hindsight wsX0_hindsight := goodIn_ca (goodIn_r _ [6, 7, 8, 9, 10, 5, 11, 12, 13, 14, 15, 16, 17, 18, 19, 20, 21, 22, 23, 24, 25, 26, 27, 28, 29, 30, 31, 32, 33, 34, 35, 36, 37, 38, 39, 40, 41, 42, 43, 44, 45, 46, 47] (by decide +kernel) (by decide +kernel)) (goodIn_sub (fun _ h => List.mem_cons_of_mem _ (List.mem_append_right _ h)) (by decide +kernel))
set_option maxRecDepth 20000 in
theorem gL_hindsight_X0_hindsight : GoodIn wsL_hindsight (wsV RL 90 RX0 yX0_hindsight wsX0_hindsight) := goodIn_app (goodIn_of _ (by decide +kernel)) ggL_hindsight_X0_hindsight
theorem dL_hindsight_0 : decode cL_hindsight 0 = .ok (.aload_n 2, 1) := by decide +kernel
theorem dL_hindsight_1 : decode cL_hindsight 1 = .ok (.iconst 0, 1) := by decide +kernel
theorem dL_hindsight_2 : decode cL_hindsight 2 = .ok (.aload_n 0, 1) := by decide +kernel
theorem dL_hindsight_3 : decode cL_hindsight 3 = .ok (.iload_n 1, 1) := by decide +kernel
theorem dL_hindsight_4 : decode cL_hindsight 4 = .ok (.invokevirtual 90, 3) := by decide +kernel
theorem dL_hindsight_7 : decode cL_hindsight 7 = .ok (.i2l, 1) := by decide +kernel
theorem dL_hindsight_8 : decode cL_hindsight 8 = .ok (.lastore, 1) := by decide +kernel
theorem dL_hindsight_9 : decode cL_hindsight 9 = .ok (.goto 6, 3) := by decide +kernel
theorem dL_hindsight_12 : decode cL_hindsight 12 = .ok (.astore_n 3, 1) := by decide +kernel
theorem dL_hindsight_13 : decode cL_hindsight 13 = .ok (.iconst 1, 1) := by decide +kernel
theorem dL_hindsight_14 : decode cL_hindsight 14 = .ok (.ireturn, 1) := by decide +kernel
theorem dL_hindsight_15 : decode cL_hindsight 15 = .ok (.iconst 0, 1) := by decide +kernel
theorem dL_hindsight_16 : decode cL_hindsight 16 = .ok (.ireturn, 1) := by decide +kernel
set_option maxRecDepth 20000 in
theorem ggL_regretOf_X0_regretOf : GoodIn wsL_regretOf wsX0_regretOf := goodIn_ca (goodIn_ca (goodIn_r _ [7, 8, 9, 10, 6, 11, 12, 13, 14, 15, 16, 17, 18, 19, 20, 21, 22, 23, 24, 25, 26, 27, 28, 29, 30, 31, 32, 33, 34, 35, 36, 37, 38, 39, 40, 41, 42, 43, 44, 45, 46, 47, 48, 49, 50, 51, 52, 53, 54, 55, 56, 57, 58, 59, 60, 61, 62, 63, 64, 65, 66, 67] (by decide +kernel) (by decide +kernel)) (goodIn_sub (fun _ h => List.mem_cons_of_mem _ (List.mem_append_left _ (List.mem_append_right _ h))) (by decide +kernel))) (goodIn_sub (fun _ h => List.mem_cons_of_mem _ (List.mem_append_right _ h)) (by decide +kernel))
set_option maxRecDepth 20000 in
theorem gL_regretOf_X0_regretOf : GoodIn wsL_regretOf (wsV RL 93 RX0 yX0_regretOf wsX0_regretOf) := goodIn_app (goodIn_of _ (by decide +kernel)) ggL_regretOf_X0_regretOf
theorem dL_regretOf_0 : decode cL_regretOf 0 = .ok (.aload_n 2, 1) := by decide +kernel
theorem dL_regretOf_1 : decode cL_regretOf 1 = .ok (.iconst 0, 1) := by decide +kernel
theorem dL_regretOf_2 : decode cL_regretOf 2 = .ok (.aload_n 0, 1) := by decide +kernel
theorem dL_regretOf_3 : decode cL_regretOf 3 = .ok (.iload_n 1, 1) := by decide +kernel
theorem dL_regretOf_4 : decode cL_regretOf 4 = .ok (.invokevirtual 93, 3) := by decide +kernel
theorem dL_regretOf_7 : decode cL_regretOf 7 = .ok (.i2l, 1) := by decide +kernel
theorem dL_regretOf_8 : decode cL_regretOf 8 = .ok (.lastore, 1) := by decide +kernel
theorem dL_regretOf_9 : decode cL_regretOf 9 = .ok (.goto 9, 3) := by decide +kernel
theorem dL_regretOf_12 : decode cL_regretOf 12 = .ok (.astore_n 3, 1) := by decide +kernel
theorem dL_regretOf_13 : decode cL_regretOf 13 = .ok (.iconst 1, 1) := by decide +kernel
theorem dL_regretOf_14 : decode cL_regretOf 14 = .ok (.ireturn, 1) := by decide +kernel
theorem dL_regretOf_15 : decode cL_regretOf 15 = .ok (.astore_n 3, 1) := by decide +kernel
theorem dL_regretOf_16 : decode cL_regretOf 16 = .ok (.iconst 2, 1) := by decide +kernel
theorem dL_regretOf_17 : decode cL_regretOf 17 = .ok (.ireturn, 1) := by decide +kernel
theorem dL_regretOf_18 : decode cL_regretOf 18 = .ok (.iconst 0, 1) := by decide +kernel
theorem dL_regretOf_19 : decode cL_regretOf 19 = .ok (.ireturn, 1) := by decide +kernel
set_option maxRecDepth 20000 in
theorem ggL_worstFork_X0_worstFork : GoodIn wsL_worstFork wsX0_worstFork := goodIn_ca (goodIn_ca (goodIn_r _ [7, 8, 9, 10, 11, 6, 12, 13, 14, 15, 16, 17, 18, 19, 20, 21, 22, 23, 24, 25, 26, 27, 28, 29, 30, 31, 32, 33, 34, 35, 36, 37, 38, 39, 40, 41, 42, 43, 44, 45, 46, 47, 48, 49, 50, 51, 52, 53, 54, 55, 56, 57, 58, 59, 60, 61, 62, 63] (by decide +kernel) (by decide +kernel)) (goodIn_sub (fun _ h => List.mem_cons_of_mem _ (List.mem_append_left _ (List.mem_append_right _ h))) (by decide +kernel))) (goodIn_sub (fun _ h => List.mem_cons_of_mem _ (List.mem_append_right _ h)) (by decide +kernel))
set_option maxRecDepth 20000 in
theorem gL_worstFork_X0_worstFork : GoodIn wsL_worstFork (wsV RL 96 RX0 yX0_worstFork wsX0_worstFork) := goodIn_app (goodIn_of _ (by decide +kernel)) ggL_worstFork_X0_worstFork
theorem dL_worstFork_0 : decode cL_worstFork 0 = .ok (.aload_n 2, 1) := by decide +kernel
theorem dL_worstFork_1 : decode cL_worstFork 1 = .ok (.iconst 0, 1) := by decide +kernel
theorem dL_worstFork_2 : decode cL_worstFork 2 = .ok (.aload_n 0, 1) := by decide +kernel
theorem dL_worstFork_3 : decode cL_worstFork 3 = .ok (.iload_n 1, 1) := by decide +kernel
theorem dL_worstFork_4 : decode cL_worstFork 4 = .ok (.invokevirtual 96, 3) := by decide +kernel
theorem dL_worstFork_7 : decode cL_worstFork 7 = .ok (.i2l, 1) := by decide +kernel
theorem dL_worstFork_8 : decode cL_worstFork 8 = .ok (.lastore, 1) := by decide +kernel
theorem dL_worstFork_9 : decode cL_worstFork 9 = .ok (.goto 9, 3) := by decide +kernel
theorem dL_worstFork_12 : decode cL_worstFork 12 = .ok (.astore_n 3, 1) := by decide +kernel
theorem dL_worstFork_13 : decode cL_worstFork 13 = .ok (.iconst 1, 1) := by decide +kernel
theorem dL_worstFork_14 : decode cL_worstFork 14 = .ok (.ireturn, 1) := by decide +kernel
theorem dL_worstFork_15 : decode cL_worstFork 15 = .ok (.astore_n 3, 1) := by decide +kernel
theorem dL_worstFork_16 : decode cL_worstFork 16 = .ok (.iconst 2, 1) := by decide +kernel
theorem dL_worstFork_17 : decode cL_worstFork 17 = .ok (.ireturn, 1) := by decide +kernel
theorem dL_worstFork_18 : decode cL_worstFork 18 = .ok (.iconst 0, 1) := by decide +kernel
theorem dL_worstFork_19 : decode cL_worstFork 19 = .ok (.ireturn, 1) := by decide +kernel
set_option maxRecDepth 20000 in
theorem ggL_law_X0_init : GoodIn wsL_law wsX0_init := goodIn_r _ [9, 10, 11, 12, 13, 14, 15, 16, 17, 18, 19, 20, 21, 22, 6, 23, 24, 25, 26, 681, 682, 683, 684, 685, 686, 687, 688, 689, 690, 691, 692, 693, 694, 695, 696, 697, 698] (by decide +kernel) (by decide +kernel)
set_option maxRecDepth 20000 in
theorem gL_law_X0_init : GoodIn wsL_law (wsX0_init) := ggL_law_X0_init
set_option maxRecDepth 20000 in
theorem ggL_law_X1_init : GoodIn wsL_law wsX1_init := goodIn_r _ [29, 30, 11, 12, 31, 32, 13, 33, 34, 35, 6, 36, 37, 38, 39, 40, 41, 699, 700, 701, 702, 703, 704, 705, 706, 707, 708, 709, 710, 711] (by decide +kernel) (by decide +kernel)
set_option maxRecDepth 20000 in
theorem gL_law_X1_init : GoodIn wsL_law (wsX1_init) := ggL_law_X1_init
set_option maxRecDepth 20000 in
theorem ggL_law_L_addExam : GoodIn wsL_law wsL_addExam := goodIn_ca (goodIn_ca (goodIn_r _ [45, 46, 47, 48, 49, 50, 2, 51, 52, 53, 54, 55, 14, 15, 19, 23, 56, 57, 58, 59, 60, 61, 62, 63, 64, 65, 66, 67, 68, 69, 70, 71, 72, 73, 74, 20, 21, 22, 75, 76, 77, 78, 79, 80, 81, 681, 682, 683, 684, 685, 686, 687, 688, 689, 690, 691, 692, 693, 694, 695, 696, 697, 698] (by decide +kernel) (by decide +kernel)) (goodIn_sub (fun _ h => List.mem_append_left _ (List.mem_append_left _ (List.mem_append_right _ h))) (by decide +kernel))) (goodIn_sub (fun _ h => List.mem_append_left _ (List.mem_append_right _ h)) (by decide +kernel))
set_option maxRecDepth 20000 in
theorem gL_law_L_addExam : GoodIn wsL_law (va_wsS RL 103 yL_addExam wsL_addExam) := goodIn_app (goodIn_of _ (by decide +kernel)) ggL_law_L_addExam
set_option maxRecDepth 20000 in
theorem ggL_law_X1_addExam : GoodIn wsL_law wsX1_addExam := goodIn_r _ [85, 86, 87, 33, 34, 35, 36, 88, 89, 90, 5, 91, 699, 700, 701, 702, 703, 704, 705, 706, 707, 708, 709, 710, 711] (by decide +kernel) (by decide +kernel)
set_option maxRecDepth 20000 in
theorem gL_law_X1_addExam : GoodIn wsL_law (wsV RL 108 RX1 yX1_addExam wsX1_addExam) := goodIn_app (goodIn_of _ (by decide +kernel)) ggL_law_X1_addExam
set_option maxRecDepth 20000 in
theorem ggL_law_X1_thrown : GoodIn wsL_law wsX1_thrown := goodIn_r _ [95, 86, 699, 700, 701, 702, 703, 704, 705, 706, 707, 708, 709, 710, 711] (by decide +kernel) (by decide +kernel)
set_option maxRecDepth 20000 in
theorem gL_law_X1_thrown : GoodIn wsL_law (wsV RL 109 RX1 yX1_thrown wsX1_thrown) := goodIn_app (goodIn_of _ (by decide +kernel)) ggL_law_X1_thrown
set_option maxRecDepth 20000 in
theorem ggL_law_L_addFork : GoodIn wsL_law wsL_addFork := goodIn_ca (goodIn_ca (goodIn_ca (goodIn_r _ [98, 99, 46, 47, 100, 101, 102, 2, 103, 54, 16, 17, 18, 19, 23, 104, 105, 106, 107, 108, 109, 110, 111, 112, 52, 53, 56, 57, 58, 59, 60, 61, 65, 66, 67, 62, 63, 64, 113, 114, 115, 68, 69, 70, 116, 117, 118, 119, 20, 21, 22, 120, 121, 122, 123, 124, 125, 126, 127, 79, 80, 81, 681, 682, 683, 684, 685, 686, 687, 688, 689, 690, 691, 692, 693, 694, 695, 696, 697, 698] (by decide +kernel) (by decide +kernel)) (goodIn_sub (fun _ h => List.mem_append_right _ h) (by decide +kernel))) (goodIn_sub (fun _ h => List.mem_append_left _ (List.mem_append_left _ (List.mem_append_right _ h))) (by decide +kernel))) (goodIn_sub (fun _ h => List.mem_append_left _ (List.mem_append_right _ h)) (by decide +kernel))
set_option maxRecDepth 20000 in
theorem gL_law_L_addFork : GoodIn wsL_law (va_wsS RL 113 yL_addFork wsL_addFork) := goodIn_app (goodIn_of _ (by decide +kernel)) ggL_law_L_addFork
set_option maxRecDepth 20000 in
theorem ggL_law_X1_addFork : GoodIn wsL_law wsX1_addFork := goodIn_r _ [131, 86, 87, 32, 33, 34, 35, 36, 132, 133, 134, 5, 135, 136, 137, 138, 88, 89, 90, 91, 699, 700, 701, 702, 703, 704, 705, 706, 707, 708, 709, 710, 711] (by decide +kernel) (by decide +kernel)
set_option maxRecDepth 20000 in
theorem gL_law_X1_addFork : GoodIn wsL_law (wsV RL 116 RX1 yX1_addFork wsX1_addFork) := goodIn_app (goodIn_of _ (by decide +kernel)) ggL_law_X1_addFork
set_option maxRecDepth 20000 in
theorem ggL_law_L_grade : GoodIn wsL_law wsL_grade := goodIn_ca (goodIn_ca (goodIn_ca (goodIn_r _ [141, 99, 46, 47, 142, 143, 144, 2, 145, 52, 53, 60, 61, 14, 15, 19, 146, 147, 148, 149, 150, 151, 108, 109, 104, 105, 106, 107, 54, 152, 153, 154, 155, 55, 62, 63, 64, 79, 80, 81, 75, 76, 77, 78, 65, 66, 67, 71, 72, 73, 74, 20, 21, 22, 156, 157, 158, 159, 116, 117, 118, 119, 120, 121, 122, 123, 16, 17, 124, 125, 126, 127, 681, 682, 683, 684, 685, 686, 687, 688, 689, 690, 691, 692, 693, 694, 695, 696, 697, 698] (by decide +kernel) (by decide +kernel)) (goodIn_sub (fun _ h => List.mem_append_left _ (List.mem_append_left _ (List.mem_append_right _ h))) (by decide +kernel))) (goodIn_sub (fun _ h => List.mem_append_left _ (List.mem_append_right _ h)) (by decide +kernel))) (goodIn_sub (fun _ h => List.mem_append_right _ h) (by decide +kernel))
set_option maxRecDepth 20000 in
theorem gL_law_L_grade : GoodIn wsL_law (va_wsS RL 117 yL_grade wsL_grade) := goodIn_app (goodIn_of _ (by decide +kernel)) ggL_law_L_grade
set_option maxRecDepth 20000 in
theorem ggL_law_X1_grade : GoodIn wsL_law wsX1_grade := goodIn_r _ [163, 86, 33, 34, 35, 164, 165, 166, 5, 167, 32, 132, 133, 134, 135, 87, 136, 137, 138, 88, 89, 90, 91, 168, 169, 170, 171, 699, 700, 701, 702, 703, 704, 705, 706, 707, 708, 709, 710, 711] (by decide +kernel) (by decide +kernel)
set_option maxRecDepth 20000 in
theorem gL_law_X1_grade : GoodIn wsL_law (wsV RL 119 RX1 yX1_grade wsX1_grade) := goodIn_app (goodIn_of _ (by decide +kernel)) ggL_law_X1_grade
set_option maxRecDepth 20000 in
theorem ggL_law_L_weigh : GoodIn wsL_law wsL_weigh := goodIn_ca (goodIn_ca (goodIn_r _ [174, 99, 46, 175, 176, 177, 2, 178, 18, 179, 180, 181, 182, 108, 109, 104, 105, 106, 107, 54, 152, 153, 154, 155, 55, 62, 63, 64, 110, 111, 112, 52, 53, 79, 80, 81, 65, 66, 67, 681, 682, 683, 684, 685, 686, 687, 688, 689, 690, 691, 692, 693, 694, 695, 696, 697, 698] (by decide +kernel) (by decide +kernel)) (goodIn_sub (fun _ h => List.mem_append_right _ h) (by decide +kernel))) (goodIn_sub (fun _ h => List.mem_append_left _ (List.mem_append_left _ (List.mem_append_right _ h))) (by decide +kernel))
set_option maxRecDepth 20000 in
theorem gL_law_L_weigh : GoodIn wsL_law (va_wsS RL 120 yL_weigh wsL_weigh) := goodIn_app (goodIn_of _ (by decide +kernel)) ggL_law_L_weigh
set_option maxRecDepth 20000 in
theorem ggL_law_X1_weigh : GoodIn wsL_law wsX1_weigh := goodIn_r _ [186, 86, 35, 187, 188, 189, 5, 190, 32, 132, 133, 134, 135, 87, 136, 137, 138, 88, 89, 90, 91, 699, 700, 701, 702, 703, 704, 705, 706, 707, 708, 709, 710, 711] (by decide +kernel) (by decide +kernel)
set_option maxRecDepth 20000 in
theorem gL_law_X1_weigh : GoodIn wsL_law (wsV RL 122 RX1 yX1_weigh wsX1_weigh) := goodIn_app (goodIn_of _ (by decide +kernel)) ggL_law_X1_weigh
set_option maxRecDepth 20000 in
theorem ggL_law_L_enroll : GoodIn wsL_law wsL_enroll := goodIn_ca (goodIn_ca (goodIn_r _ [193, 99, 47, 194, 195, 196, 2, 197, 60, 61, 198, 24, 104, 105, 106, 107, 108, 109, 54, 65, 66, 67, 681, 682, 683, 684, 685, 686, 687, 688, 689, 690, 691, 692, 693, 694, 695, 696, 697, 698] (by decide +kernel) (by decide +kernel)) (goodIn_sub (fun _ h => List.mem_append_left _ (List.mem_append_right _ h)) (by decide +kernel))) (goodIn_sub (fun _ h => List.mem_append_right _ h) (by decide +kernel))
set_option maxRecDepth 20000 in
theorem gL_law_L_enroll : GoodIn wsL_law (va_wsS RL 123 yL_enroll wsL_enroll) := goodIn_app (goodIn_of _ (by decide +kernel)) ggL_law_L_enroll
set_option maxRecDepth 20000 in
theorem ggL_law_X1_enroll : GoodIn wsL_law wsX1_enroll := goodIn_r _ [202, 86, 203, 39, 132, 133, 134, 5, 135, 87, 136, 137, 138, 88, 89, 90, 91, 699, 700, 701, 702, 703, 704, 705, 706, 707, 708, 709, 710, 711] (by decide +kernel) (by decide +kernel)
set_option maxRecDepth 20000 in
theorem gL_law_X1_enroll : GoodIn wsL_law (wsV RL 126 RX1 yX1_enroll wsX1_enroll) := goodIn_app (goodIn_of _ (by decide +kernel)) ggL_law_X1_enroll
set_option maxRecDepth 20000 in
theorem ggL_law_L_turn : GoodIn wsL_law wsL_turn := goodIn_ca (goodIn_ca (goodIn_r _ [206, 99, 47, 207, 208, 209, 2, 210, 60, 61, 24, 211, 212, 213, 214, 108, 109, 198, 79, 80, 81, 152, 153, 154, 155, 55, 62, 63, 64, 215, 216, 217, 218, 25, 26, 65, 66, 67, 219, 220, 221, 222, 17, 16, 681, 682, 683, 684, 685, 686, 687, 688, 689, 690, 691, 692, 693, 694, 695, 696, 697, 698] (by decide +kernel) (by decide +kernel)) (goodIn_sub (fun _ h => List.mem_append_left _ (List.mem_append_right _ h)) (by decide +kernel))) (goodIn_sub (fun _ h => List.mem_append_right _ h) (by decide +kernel))
set_option maxRecDepth 20000 in
theorem gL_law_L_turn : GoodIn wsL_law (va_wsS RL 127 yL_turn wsL_turn) := goodIn_app (goodIn_of _ (by decide +kernel)) ggL_law_L_turn
set_option maxRecDepth 20000 in
theorem ggL_law_X1_turn : GoodIn wsL_law wsX1_turn := goodIn_r _ [226, 86, 39, 32, 34, 33, 227, 228, 229, 5, 230, 203, 136, 137, 138, 88, 89, 90, 91, 231, 232, 233, 234, 41, 40, 699, 700, 701, 702, 703, 704, 705, 706, 707, 708, 709, 710, 711] (by decide +kernel) (by decide +kernel)
set_option maxRecDepth 20000 in
theorem gL_law_X1_turn : GoodIn wsL_law (wsV RL 130 RX1 yX1_turn wsX1_turn) := goodIn_app (goodIn_of _ (by decide +kernel)) ggL_law_X1_turn
set_option maxRecDepth 20000 in
theorem ggL_law_L_goBack : GoodIn wsL_law wsL_goBack := goodIn_ca (goodIn_ca (goodIn_r _ [237, 99, 47, 238, 239, 240, 2, 241, 60, 61, 25, 24, 211, 212, 213, 214, 108, 109, 198, 79, 80, 81, 242, 243, 244, 245, 26, 65, 66, 67, 681, 682, 683, 684, 685, 686, 687, 688, 689, 690, 691, 692, 693, 694, 695, 696, 697, 698] (by decide +kernel) (by decide +kernel)) (goodIn_sub (fun _ h => List.mem_append_left _ (List.mem_append_right _ h)) (by decide +kernel))) (goodIn_sub (fun _ h => List.mem_append_right _ h) (by decide +kernel))
set_option maxRecDepth 20000 in
theorem gL_law_L_goBack : GoodIn wsL_law (va_wsS RL 131 yL_goBack wsL_goBack) := goodIn_app (goodIn_of _ (by decide +kernel)) ggL_law_L_goBack
set_option maxRecDepth 20000 in
theorem ggL_law_X1_goBack : GoodIn wsL_law wsX1_goBack := goodIn_r _ [249, 86, 40, 39, 41, 227, 228, 229, 5, 230, 203, 136, 137, 138, 88, 89, 90, 91, 699, 700, 701, 702, 703, 704, 705, 706, 707, 708, 709, 710, 711] (by decide +kernel) (by decide +kernel)
set_option maxRecDepth 20000 in
theorem gL_law_X1_goBack : GoodIn wsL_law (wsV RL 133 RX1 yX1_goBack wsX1_goBack) := goodIn_app (goodIn_of _ (by decide +kernel)) ggL_law_X1_goBack
set_option maxRecDepth 20000 in
theorem ggL_law_L_follow : GoodIn wsL_law wsL_follow := goodIn_ca (goodIn_r _ [252, 99, 253, 254, 255, 2, 256, 24, 211, 212, 213, 214, 108, 109, 198, 79, 80, 81, 152, 153, 154, 155, 55, 62, 63, 64, 257, 258, 259, 260, 261, 262, 263, 264, 20, 21, 124, 125, 126, 127, 18, 219, 220, 221, 222, 17, 16, 215, 216, 217, 218, 25, 26, 65, 66, 67, 681, 682, 683, 684, 685, 686, 687, 688, 689, 690, 691, 692, 693, 694, 695, 696, 697, 698] (by decide +kernel) (by decide +kernel)) (goodIn_sub (fun _ h => List.mem_append_right _ h) (by decide +kernel))
set_option maxRecDepth 20000 in
theorem gL_law_L_follow : GoodIn wsL_law (va_wsS RL 134 yL_follow wsL_follow) := goodIn_app (goodIn_of _ (by decide +kernel)) ggL_law_L_follow
set_option maxRecDepth 20000 in
theorem ggL_law_X1_follow : GoodIn wsL_law wsX1_follow := goodIn_r _ [268, 86, 40, 32, 39, 227, 228, 229, 5, 230, 203, 136, 137, 138, 88, 89, 90, 91, 269, 270, 271, 272, 87, 35, 37, 33, 34, 273, 125, 126, 127, 38, 274, 275, 276, 277, 278, 279, 280, 281, 282, 283, 284, 285, 231, 232, 233, 234, 41, 699, 700, 701, 702, 703, 704, 705, 706, 707, 708, 709, 710, 711] (by decide +kernel) (by decide +kernel)
set_option maxRecDepth 20000 in
theorem gL_law_X1_follow : GoodIn wsL_law (wsV RL 136 RX1 yX1_follow wsX1_follow) := goodIn_app (goodIn_of _ (by decide +kernel)) ggL_law_X1_follow
set_option maxRecDepth 20000 in
theorem ggL_law_X0_places : GoodIn wsL_law wsX0_places := goodIn_r _ [289, 54, 681, 682, 683, 684, 685, 686, 687, 688, 689, 690, 691, 692, 693, 694, 695, 696, 697, 698] (by decide +kernel) (by decide +kernel)
set_option maxRecDepth 20000 in
theorem gL_law_X0_places : GoodIn wsL_law (wsV RL 137 RX0 yX0_places wsX0_places) := goodIn_app (goodIn_of _ (by decide +kernel)) ggL_law_X0_places
set_option maxRecDepth 20000 in
theorem ggL_law_X1_places : GoodIn wsL_law wsX1_places := goodIn_r _ [293, 87, 294, 295, 296, 5, 297, 86, 699, 700, 701, 702, 703, 704, 705, 706, 707, 708, 709, 710, 711] (by decide +kernel) (by decide +kernel)
set_option maxRecDepth 20000 in
theorem gL_law_X1_places : GoodIn wsL_law (wsV RL 140 RX1 yX1_places wsX1_places) := goodIn_app (goodIn_of _ (by decide +kernel)) ggL_law_X1_places
set_option maxRecDepth 20000 in
theorem ggL_law_X0_exams : GoodIn wsL_law wsX0_exams := goodIn_r _ [301, 55, 302, 303, 304, 305, 306, 307, 308, 681, 682, 683, 684, 685, 686, 687, 688, 689, 690, 691, 692, 693, 694, 695, 696, 697, 698] (by decide +kernel) (by decide +kernel)
set_option maxRecDepth 20000 in
theorem gL_law_X0_exams : GoodIn wsL_law (wsV RL 141 RX0 yX0_exams wsX0_exams) := goodIn_app (goodIn_of _ (by decide +kernel)) ggL_law_X0_exams
set_option maxRecDepth 20000 in
theorem ggL_law_X1_exams : GoodIn wsL_law wsX1_exams := goodIn_r _ [312, 313, 314, 315, 5, 316, 87, 32, 294, 295, 296, 297, 86, 699, 700, 701, 702, 703, 704, 705, 706, 707, 708, 709, 710, 711] (by decide +kernel) (by decide +kernel)
set_option maxRecDepth 20000 in
theorem gL_law_X1_exams : GoodIn wsL_law (wsV RL 144 RX1 yX1_exams wsX1_exams) := goodIn_app (goodIn_of _ (by decide +kernel)) ggL_law_X1_exams
set_option maxRecDepth 20000 in
theorem ggL_law_X0_graded : GoodIn wsL_law wsX0_graded := goodIn_r _ [320, 146, 681, 682, 683, 684, 685, 686, 687, 688, 689, 690, 691, 692, 693, 694, 695, 696, 697, 698] (by decide +kernel) (by decide +kernel)
set_option maxRecDepth 20000 in
theorem gL_law_X0_graded : GoodIn wsL_law (wsV RL 145 RX0 yX0_graded wsX0_graded) := goodIn_app (goodIn_of _ (by decide +kernel)) ggL_law_X0_graded
set_option maxRecDepth 20000 in
theorem ggL_law_X1_graded : GoodIn wsL_law wsX1_graded := goodIn_r _ [324, 168, 169, 170, 5, 171, 87, 32, 35, 294, 295, 296, 297, 86, 699, 700, 701, 702, 703, 704, 705, 706, 707, 708, 709, 710, 711] (by decide +kernel) (by decide +kernel)
set_option maxRecDepth 20000 in
theorem gL_law_X1_graded : GoodIn wsL_law (wsV RL 148 RX1 yX1_graded wsX1_graded) := goodIn_app (goodIn_of _ (by decide +kernel)) ggL_law_X1_graded
set_option maxRecDepth 20000 in
theorem ggL_law_X0_students : GoodIn wsL_law wsX0_students := goodIn_r _ [328, 198, 681, 682, 683, 684, 685, 686, 687, 688, 689, 690, 691, 692, 693, 694, 695, 696, 697, 698] (by decide +kernel) (by decide +kernel)
set_option maxRecDepth 20000 in
theorem gL_law_X0_students : GoodIn wsL_law (wsV RL 149 RX0 yX0_students wsX0_students) := goodIn_app (goodIn_of _ (by decide +kernel)) ggL_law_X0_students
set_option maxRecDepth 20000 in
theorem ggL_law_X1_students : GoodIn wsL_law wsX1_students := goodIn_r _ [332, 203, 294, 295, 296, 5, 297, 86, 699, 700, 701, 702, 703, 704, 705, 706, 707, 708, 709, 710, 711] (by decide +kernel) (by decide +kernel)
set_option maxRecDepth 20000 in
theorem gL_law_X1_students : GoodIn wsL_law (wsV RL 152 RX1 yX1_students wsX1_students) := goodIn_app (goodIn_of _ (by decide +kernel)) ggL_law_X1_students
set_option maxRecDepth 20000 in
theorem ggL_law_X0_atExams : GoodIn wsL_law wsX0_atExams := goodIn_r _ [336, 198, 24, 79, 80, 2, 81, 152, 153, 154, 155, 55, 62, 63, 64, 681, 682, 683, 684, 685, 686, 687, 688, 689, 690, 691, 692, 693, 694, 695, 696, 697, 698] (by decide +kernel) (by decide +kernel)
set_option maxRecDepth 20000 in
theorem gL_law_X0_atExams : GoodIn wsL_law (wsV RL 153 RX0 yX0_atExams wsX0_atExams) := goodIn_app (goodIn_of _ (by decide +kernel)) ggL_law_X0_atExams
set_option maxRecDepth 20000 in
theorem ggL_law_X1_atExams : GoodIn wsL_law wsX1_atExams := goodIn_r _ [340, 341, 342, 343, 5, 344, 203, 32, 39, 294, 295, 296, 297, 86, 699, 700, 701, 702, 703, 704, 705, 706, 707, 708, 709, 710, 711] (by decide +kernel) (by decide +kernel)
set_option maxRecDepth 20000 in
theorem gL_law_X1_atExams : GoodIn wsL_law (wsV RL 156 RX1 yX1_atExams wsX1_atExams) := goodIn_app (goodIn_of _ (by decide +kernel)) ggL_law_X1_atExams
set_option maxRecDepth 20000 in
theorem ggL_law_L_isExam : GoodIn wsL_law wsL_isExam := goodIn_ca (goodIn_r _ [347, 99, 348, 349, 350, 2, 351, 104, 105, 106, 107, 108, 109, 54, 152, 153, 154, 155, 55, 62, 63, 64, 681, 682, 683, 684, 685, 686, 687, 688, 689, 690, 691, 692, 693, 694, 695, 696, 697, 698] (by decide +kernel) (by decide +kernel)) (goodIn_sub (fun _ h => List.mem_append_right _ h) (by decide +kernel))
set_option maxRecDepth 20000 in
theorem gL_law_L_isExam : GoodIn wsL_law (va_wsS RL 157 yL_isExam wsL_isExam) := goodIn_app (goodIn_of _ (by decide +kernel)) ggL_law_L_isExam
set_option maxRecDepth 20000 in
theorem ggL_law_X1_isExam : GoodIn wsL_law wsX1_isExam := goodIn_r _ [355, 86, 32, 132, 133, 134, 5, 135, 87, 136, 137, 138, 356, 357, 358, 359, 699, 700, 701, 702, 703, 704, 705, 706, 707, 708, 709, 710, 711] (by decide +kernel) (by decide +kernel)
set_option maxRecDepth 20000 in
theorem gL_law_X1_isExam : GoodIn wsL_law (wsV RL 159 RX1 yX1_isExam wsX1_isExam) := goodIn_app (goodIn_of _ (by decide +kernel)) ggL_law_X1_isExam
set_option maxRecDepth 20000 in
theorem ggL_law_L_isGraded : GoodIn wsL_law wsL_isGraded := goodIn_ca (goodIn_r _ [362, 99, 363, 364, 365, 2, 366, 148, 149, 150, 151, 108, 109, 104, 105, 106, 107, 54, 152, 153, 154, 155, 55, 62, 63, 64, 75, 76, 77, 78, 19, 79, 80, 81, 681, 682, 683, 684, 685, 686, 687, 688, 689, 690, 691, 692, 693, 694, 695, 696, 697, 698] (by decide +kernel) (by decide +kernel)) (goodIn_sub (fun _ h => List.mem_append_right _ h) (by decide +kernel))
set_option maxRecDepth 20000 in
theorem gL_law_L_isGraded : GoodIn wsL_law (va_wsS RL 160 yL_isGraded wsL_isGraded) := goodIn_app (goodIn_of _ (by decide +kernel)) ggL_law_L_isGraded
set_option maxRecDepth 20000 in
theorem ggL_law_X1_isGraded : GoodIn wsL_law wsX1_isGraded := goodIn_r _ [370, 86, 35, 164, 165, 166, 5, 167, 32, 132, 133, 134, 135, 87, 136, 137, 138, 356, 357, 358, 359, 699, 700, 701, 702, 703, 704, 705, 706, 707, 708, 709, 710, 711] (by decide +kernel) (by decide +kernel)
set_option maxRecDepth 20000 in
theorem gL_law_X1_isGraded : GoodIn wsL_law (wsV RL 162 RX1 yX1_isGraded wsX1_isGraded) := goodIn_app (goodIn_of _ (by decide +kernel)) ggL_law_X1_isGraded
set_option maxRecDepth 20000 in
theorem ggL_law_L_gradeOf : GoodIn wsL_law wsL_gradeOf := goodIn_ca (goodIn_r _ [373, 99, 374, 375, 376, 2, 377, 19, 148, 149, 150, 151, 108, 109, 104, 105, 106, 107, 54, 152, 153, 154, 155, 55, 62, 63, 64, 79, 80, 81, 681, 682, 683, 684, 685, 686, 687, 688, 689, 690, 691, 692, 693, 694, 695, 696, 697, 698] (by decide +kernel) (by decide +kernel)) (goodIn_sub (fun _ h => List.mem_append_right _ h) (by decide +kernel))
set_option maxRecDepth 20000 in
theorem gL_law_L_gradeOf : GoodIn wsL_law (va_wsS RL 163 yL_gradeOf wsL_gradeOf) := goodIn_app (goodIn_of _ (by decide +kernel)) ggL_law_L_gradeOf
set_option maxRecDepth 20000 in
theorem ggL_law_X1_gradeOf : GoodIn wsL_law wsX1_gradeOf := goodIn_r _ [381, 86, 35, 164, 165, 166, 5, 167, 32, 132, 133, 134, 135, 87, 136, 137, 138, 88, 89, 90, 91, 699, 700, 701, 702, 703, 704, 705, 706, 707, 708, 709, 710, 711] (by decide +kernel) (by decide +kernel)
set_option maxRecDepth 20000 in
theorem gL_law_X1_gradeOf : GoodIn wsL_law (wsV RL 165 RX1 yX1_gradeOf wsX1_gradeOf) := goodIn_app (goodIn_of _ (by decide +kernel)) ggL_law_X1_gradeOf
set_option maxRecDepth 20000 in
theorem ggL_law_L_leftOf : GoodIn wsL_law wsL_leftOf := goodIn_ca (goodIn_r _ [384, 99, 385, 386, 387, 2, 388, 16, 179, 180, 181, 182, 108, 109, 104, 105, 106, 107, 54, 152, 153, 154, 155, 55, 62, 63, 64, 79, 80, 81, 681, 682, 683, 684, 685, 686, 687, 688, 689, 690, 691, 692, 693, 694, 695, 696, 697, 698] (by decide +kernel) (by decide +kernel)) (goodIn_sub (fun _ h => List.mem_append_right _ h) (by decide +kernel))
set_option maxRecDepth 20000 in
theorem gL_law_L_leftOf : GoodIn wsL_law (va_wsS RL 166 yL_leftOf wsL_leftOf) := goodIn_app (goodIn_of _ (by decide +kernel)) ggL_law_L_leftOf
set_option maxRecDepth 20000 in
theorem ggL_law_X1_leftOf : GoodIn wsL_law wsX1_leftOf := goodIn_r _ [392, 33, 393, 394, 395, 5, 396, 86, 187, 188, 189, 190, 32, 132, 133, 134, 135, 87, 136, 137, 138, 88, 89, 90, 91, 699, 700, 701, 702, 703, 704, 705, 706, 707, 708, 709, 710, 711] (by decide +kernel) (by decide +kernel)
set_option maxRecDepth 20000 in
theorem gL_law_X1_leftOf : GoodIn wsL_law (wsV RL 168 RX1 yX1_leftOf wsX1_leftOf) := goodIn_app (goodIn_of _ (by decide +kernel)) ggL_law_X1_leftOf
set_option maxRecDepth 20000 in
theorem ggL_law_L_rightOf : GoodIn wsL_law wsL_rightOf := goodIn_ca (goodIn_r _ [399, 99, 400, 401, 402, 2, 403, 17, 179, 180, 181, 182, 108, 109, 104, 105, 106, 107, 54, 152, 153, 154, 155, 55, 62, 63, 64, 79, 80, 81, 681, 682, 683, 684, 685, 686, 687, 688, 689, 690, 691, 692, 693, 694, 695, 696, 697, 698] (by decide +kernel) (by decide +kernel)) (goodIn_sub (fun _ h => List.mem_append_right _ h) (by decide +kernel))
set_option maxRecDepth 20000 in
theorem gL_law_L_rightOf : GoodIn wsL_law (va_wsS RL 169 yL_rightOf wsL_rightOf) := goodIn_app (goodIn_of _ (by decide +kernel)) ggL_law_L_rightOf
set_option maxRecDepth 20000 in
theorem ggL_law_X1_rightOf : GoodIn wsL_law wsX1_rightOf := goodIn_r _ [407, 34, 393, 394, 395, 5, 396, 86, 187, 188, 189, 190, 32, 132, 133, 134, 135, 87, 136, 137, 138, 88, 89, 90, 91, 699, 700, 701, 702, 703, 704, 705, 706, 707, 708, 709, 710, 711] (by decide +kernel) (by decide +kernel)
set_option maxRecDepth 20000 in
theorem gL_law_X1_rightOf : GoodIn wsL_law (wsV RL 171 RX1 yX1_rightOf wsX1_rightOf) := goodIn_app (goodIn_of _ (by decide +kernel)) ggL_law_X1_rightOf
set_option maxRecDepth 20000 in
theorem ggL_law_L_weightOf : GoodIn wsL_law wsL_weightOf := goodIn_ca (goodIn_r _ [410, 99, 411, 412, 413, 2, 414, 18, 179, 180, 181, 182, 108, 109, 104, 105, 106, 107, 54, 152, 153, 154, 155, 55, 62, 63, 64, 79, 80, 81, 681, 682, 683, 684, 685, 686, 687, 688, 689, 690, 691, 692, 693, 694, 695, 696, 697, 698] (by decide +kernel) (by decide +kernel)) (goodIn_sub (fun _ h => List.mem_append_right _ h) (by decide +kernel))
set_option maxRecDepth 20000 in
theorem gL_law_L_weightOf : GoodIn wsL_law (va_wsS RL 172 yL_weightOf wsL_weightOf) := goodIn_app (goodIn_of _ (by decide +kernel)) ggL_law_L_weightOf
set_option maxRecDepth 20000 in
theorem ggL_law_X1_weightOf : GoodIn wsL_law wsX1_weightOf := goodIn_r _ [418, 35, 393, 394, 395, 5, 396, 86, 187, 188, 189, 190, 32, 132, 133, 134, 135, 87, 136, 137, 138, 88, 89, 90, 91, 699, 700, 701, 702, 703, 704, 705, 706, 707, 708, 709, 710, 711] (by decide +kernel) (by decide +kernel)
set_option maxRecDepth 20000 in
theorem gL_law_X1_weightOf : GoodIn wsL_law (wsV RL 174 RX1 yX1_weightOf wsX1_weightOf) := goodIn_app (goodIn_of _ (by decide +kernel)) ggL_law_X1_weightOf
set_option maxRecDepth 20000 in
theorem ggL_law_L_placeOf : GoodIn wsL_law wsL_placeOf := goodIn_ca (goodIn_r _ [421, 99, 422, 423, 424, 2, 425, 24, 211, 212, 213, 214, 108, 109, 198, 79, 80, 81, 681, 682, 683, 684, 685, 686, 687, 688, 689, 690, 691, 692, 693, 694, 695, 696, 697, 698] (by decide +kernel) (by decide +kernel)) (goodIn_sub (fun _ h => List.mem_append_right _ h) (by decide +kernel))
set_option maxRecDepth 20000 in
theorem gL_law_L_placeOf : GoodIn wsL_law (va_wsS RL 175 yL_placeOf wsL_placeOf) := goodIn_app (goodIn_of _ (by decide +kernel)) ggL_law_L_placeOf
set_option maxRecDepth 20000 in
theorem ggL_law_X1_placeOf : GoodIn wsL_law wsX1_placeOf := goodIn_r _ [429, 39, 430, 431, 432, 5, 433, 86, 227, 228, 229, 230, 203, 136, 137, 138, 88, 89, 90, 91, 699, 700, 701, 702, 703, 704, 705, 706, 707, 708, 709, 710, 711] (by decide +kernel) (by decide +kernel)
set_option maxRecDepth 20000 in
theorem gL_law_X1_placeOf : GoodIn wsL_law (wsV RL 177 RX1 yX1_placeOf wsX1_placeOf) := goodIn_app (goodIn_of _ (by decide +kernel)) ggL_law_X1_placeOf
set_option maxRecDepth 20000 in
theorem ggL_law_L_passedBy : GoodIn wsL_law wsL_passedBy := goodIn_ca (goodIn_r _ [436, 99, 437, 438, 439, 2, 440, 25, 211, 212, 213, 214, 108, 109, 198, 79, 80, 81, 681, 682, 683, 684, 685, 686, 687, 688, 689, 690, 691, 692, 693, 694, 695, 696, 697, 698] (by decide +kernel) (by decide +kernel)) (goodIn_sub (fun _ h => List.mem_append_right _ h) (by decide +kernel))
set_option maxRecDepth 20000 in
theorem gL_law_L_passedBy : GoodIn wsL_law (va_wsS RL 178 yL_passedBy wsL_passedBy) := goodIn_app (goodIn_of _ (by decide +kernel)) ggL_law_L_passedBy
set_option maxRecDepth 20000 in
theorem ggL_law_X1_passedBy : GoodIn wsL_law wsX1_passedBy := goodIn_r _ [444, 40, 430, 431, 432, 5, 433, 86, 227, 228, 229, 230, 203, 136, 137, 138, 88, 89, 90, 91, 699, 700, 701, 702, 703, 704, 705, 706, 707, 708, 709, 710, 711] (by decide +kernel) (by decide +kernel)
set_option maxRecDepth 20000 in
theorem gL_law_X1_passedBy : GoodIn wsL_law (wsV RL 180 RX1 yX1_passedBy wsX1_passedBy) := goodIn_app (goodIn_of _ (by decide +kernel)) ggL_law_X1_passedBy
set_option maxRecDepth 20000 in
theorem ggL_law_L_sureGrade : GoodIn wsL_law wsL_sureGrade := goodIn_ca (goodIn_r _ [447, 99, 448, 449, 450, 2, 451, 20, 104, 105, 106, 107, 108, 109, 54, 79, 80, 81, 681, 682, 683, 684, 685, 686, 687, 688, 689, 690, 691, 692, 693, 694, 695, 696, 697, 698] (by decide +kernel) (by decide +kernel)) (goodIn_sub (fun _ h => List.mem_append_right _ h) (by decide +kernel))
set_option maxRecDepth 20000 in
theorem gL_law_L_sureGrade : GoodIn wsL_law (va_wsS RL 181 yL_sureGrade wsL_sureGrade) := goodIn_app (goodIn_of _ (by decide +kernel)) ggL_law_L_sureGrade
set_option maxRecDepth 20000 in
theorem ggL_law_X1_sureGrade : GoodIn wsL_law wsX1_sureGrade := goodIn_r _ [455, 37, 456, 457, 458, 5, 459, 86, 269, 270, 271, 272, 87, 32, 35, 33, 34, 273, 125, 126, 127, 38, 132, 133, 134, 135, 136, 137, 138, 88, 89, 90, 91, 699, 700, 701, 702, 703, 704, 705, 706, 707, 708, 709, 710, 711] (by decide +kernel) (by decide +kernel)
set_option maxRecDepth 20000 in
theorem gL_law_X1_sureGrade : GoodIn wsL_law (wsV RL 183 RX1 yX1_sureGrade wsX1_sureGrade) := goodIn_app (goodIn_of _ (by decide +kernel)) ggL_law_X1_sureGrade
set_option maxRecDepth 20000 in
theorem ggL_law_L_hope : GoodIn wsL_law wsL_hope := goodIn_ca (goodIn_r _ [462, 99, 463, 464, 465, 2, 466, 21, 104, 105, 106, 107, 108, 109, 54, 79, 80, 81, 681, 682, 683, 684, 685, 686, 687, 688, 689, 690, 691, 692, 693, 694, 695, 696, 697, 698] (by decide +kernel) (by decide +kernel)) (goodIn_sub (fun _ h => List.mem_append_right _ h) (by decide +kernel))
set_option maxRecDepth 20000 in
theorem gL_law_L_hope : GoodIn wsL_law (va_wsS RL 184 yL_hope wsL_hope) := goodIn_app (goodIn_of _ (by decide +kernel)) ggL_law_L_hope
set_option maxRecDepth 20000 in
theorem ggL_law_X1_hope : GoodIn wsL_law wsX1_hope := goodIn_r _ [470, 38, 456, 457, 458, 5, 459, 86, 269, 270, 271, 272, 87, 32, 35, 37, 33, 34, 273, 125, 126, 127, 132, 133, 134, 135, 136, 137, 138, 88, 89, 90, 91, 699, 700, 701, 702, 703, 704, 705, 706, 707, 708, 709, 710, 711] (by decide +kernel) (by decide +kernel)
set_option maxRecDepth 20000 in
theorem gL_law_X1_hope : GoodIn wsL_law (wsV RL 186 RX1 yX1_hope wsX1_hope) := goodIn_app (goodIn_of _ (by decide +kernel)) ggL_law_X1_hope
set_option maxRecDepth 20000 in
theorem ggL_law_L_reaches : GoodIn wsL_law wsL_reaches := goodIn_ca (goodIn_r _ [473, 99, 474, 475, 476, 2, 477, 23, 104, 105, 106, 107, 108, 109, 54, 113, 114, 115, 62, 63, 64, 681, 682, 683, 684, 685, 686, 687, 688, 689, 690, 691, 692, 693, 694, 695, 696, 697, 698] (by decide +kernel) (by decide +kernel)) (goodIn_sub (fun _ h => List.mem_append_right _ h) (by decide +kernel))
set_option maxRecDepth 20000 in
theorem gL_law_L_reaches : GoodIn wsL_law (va_wsS RL 187 yL_reaches wsL_reaches) := goodIn_app (goodIn_of _ (by decide +kernel)) ggL_law_L_reaches
set_option maxRecDepth 20000 in
theorem ggL_law_X1_reaches : GoodIn wsL_law wsX1_reaches := goodIn_r _ [481, 86, 132, 133, 134, 5, 135, 87, 136, 137, 138, 482, 483, 484, 485, 36, 356, 357, 358, 359, 699, 700, 701, 702, 703, 704, 705, 706, 707, 708, 709, 710, 711] (by decide +kernel) (by decide +kernel)
set_option maxRecDepth 20000 in
theorem gL_law_X1_reaches : GoodIn wsL_law (wsV RL 189 RX1 yX1_reaches wsX1_reaches) := goodIn_app (goodIn_of _ (by decide +kernel)) ggL_law_X1_reaches
set_option maxRecDepth 20000 in
theorem ggL_law_L_examsFrom : GoodIn wsL_law wsL_examsFrom := goodIn_ca (goodIn_r _ [488, 99, 489, 490, 491, 2, 492, 23, 55, 104, 105, 106, 107, 108, 109, 54, 113, 114, 115, 302, 303, 304, 305, 306, 307, 308, 681, 682, 683, 684, 685, 686, 687, 688, 689, 690, 691, 692, 693, 694, 695, 696, 697, 698] (by decide +kernel) (by decide +kernel)) (goodIn_sub (fun _ h => List.mem_append_right _ h) (by decide +kernel))
set_option maxRecDepth 20000 in
theorem gL_law_L_examsFrom : GoodIn wsL_law (va_wsS RL 190 yL_examsFrom wsL_examsFrom) := goodIn_app (goodIn_of _ (by decide +kernel)) ggL_law_L_examsFrom
set_option maxRecDepth 20000 in
theorem ggL_law_X1_examsFrom : GoodIn wsL_law wsX1_examsFrom := goodIn_r _ [496, 86, 132, 133, 134, 5, 135, 87, 136, 137, 138, 497, 498, 499, 500, 32, 482, 483, 484, 485, 36, 88, 89, 90, 91, 699, 700, 701, 702, 703, 704, 705, 706, 707, 708, 709, 710, 711] (by decide +kernel) (by decide +kernel)
set_option maxRecDepth 20000 in
theorem gL_law_X1_examsFrom : GoodIn wsL_law (wsV RL 192 RX1 yX1_examsFrom wsX1_examsFrom) := goodIn_app (goodIn_of _ (by decide +kernel)) ggL_law_X1_examsFrom
set_option maxRecDepth 20000 in
theorem ggL_law_L_risk : GoodIn wsL_law wsL_risk := goodIn_ca (goodIn_r _ [503, 99, 504, 505, 506, 2, 507, 179, 180, 181, 182, 108, 109, 104, 105, 106, 107, 54, 152, 153, 154, 155, 55, 62, 63, 64, 261, 262, 263, 264, 20, 21, 124, 125, 126, 127, 18, 219, 220, 221, 222, 17, 16, 79, 80, 81, 681, 682, 683, 684, 685, 686, 687, 688, 689, 690, 691, 692, 693, 694, 695, 696, 697, 698] (by decide +kernel) (by decide +kernel)) (goodIn_sub (fun _ h => List.mem_append_right _ h) (by decide +kernel))
set_option maxRecDepth 20000 in
theorem gL_law_L_risk : GoodIn wsL_law (va_wsS RL 193 yL_risk wsL_risk) := goodIn_app (goodIn_of _ (by decide +kernel)) ggL_law_L_risk
set_option maxRecDepth 20000 in
theorem ggL_law_X1_risk : GoodIn wsL_law wsX1_risk := goodIn_r _ [511, 86, 269, 270, 271, 5, 272, 87, 32, 35, 37, 33, 34, 273, 125, 126, 127, 38, 187, 188, 189, 190, 132, 133, 134, 135, 136, 137, 138, 282, 283, 284, 285, 88, 89, 90, 91, 699, 700, 701, 702, 703, 704, 705, 706, 707, 708, 709, 710, 711] (by decide +kernel) (by decide +kernel)
set_option maxRecDepth 20000 in
theorem gL_law_X1_risk : GoodIn wsL_law (wsV RL 195 RX1 yX1_risk wsX1_risk) := goodIn_app (goodIn_of _ (by decide +kernel)) ggL_law_X1_risk
set_option maxRecDepth 20000 in
theorem ggL_law_L_planTurnsRight : GoodIn wsL_law wsL_planTurnsRight := goodIn_ca (goodIn_r _ [514, 99, 515, 516, 517, 2, 518, 179, 180, 181, 182, 108, 109, 104, 105, 106, 107, 54, 152, 153, 154, 155, 55, 62, 63, 64, 257, 258, 259, 260, 261, 262, 263, 264, 20, 21, 124, 125, 126, 127, 18, 219, 220, 221, 222, 17, 16, 79, 80, 81, 681, 682, 683, 684, 685, 686, 687, 688, 689, 690, 691, 692, 693, 694, 695, 696, 697, 698] (by decide +kernel) (by decide +kernel)) (goodIn_sub (fun _ h => List.mem_append_right _ h) (by decide +kernel))
set_option maxRecDepth 20000 in
theorem gL_law_L_planTurnsRight : GoodIn wsL_law (va_wsS RL 196 yL_planTurnsRight wsL_planTurnsRight) := goodIn_app (goodIn_of _ (by decide +kernel)) ggL_law_L_planTurnsRight
set_option maxRecDepth 20000 in
theorem ggL_law_X1_planTurnsRight : GoodIn wsL_law wsX1_planTurnsRight := goodIn_r _ [522, 86, 269, 270, 271, 5, 272, 87, 32, 35, 37, 33, 34, 273, 125, 126, 127, 38, 187, 188, 189, 190, 132, 133, 134, 135, 136, 137, 138, 278, 279, 280, 281, 282, 283, 284, 285, 356, 357, 358, 359, 699, 700, 701, 702, 703, 704, 705, 706, 707, 708, 709, 710, 711] (by decide +kernel) (by decide +kernel)
set_option maxRecDepth 20000 in
theorem gL_law_X1_planTurnsRight : GoodIn wsL_law (wsV RL 198 RX1 yX1_planTurnsRight wsX1_planTurnsRight) := goodIn_app (goodIn_of _ (by decide +kernel)) ggL_law_X1_planTurnsRight
set_option maxRecDepth 20000 in
theorem ggL_law_L_planLeadsTo : GoodIn wsL_law wsL_planLeadsTo := goodIn_ca (goodIn_r _ [525, 99, 526, 527, 528, 2, 529, 104, 105, 106, 107, 108, 109, 54, 152, 153, 154, 155, 55, 62, 63, 64, 257, 258, 259, 260, 261, 262, 263, 264, 20, 21, 124, 125, 126, 127, 18, 219, 220, 221, 222, 17, 16, 79, 80, 81, 681, 682, 683, 684, 685, 686, 687, 688, 689, 690, 691, 692, 693, 694, 695, 696, 697, 698] (by decide +kernel) (by decide +kernel)) (goodIn_sub (fun _ h => List.mem_append_right _ h) (by decide +kernel))
set_option maxRecDepth 20000 in
theorem gL_law_L_planLeadsTo : GoodIn wsL_law (va_wsS RL 199 yL_planLeadsTo wsL_planLeadsTo) := goodIn_app (goodIn_of _ (by decide +kernel)) ggL_law_L_planLeadsTo
set_option maxRecDepth 20000 in
theorem ggL_law_X1_planLeadsTo : GoodIn wsL_law wsX1_planLeadsTo := goodIn_r _ [533, 86, 269, 270, 271, 5, 272, 87, 32, 35, 37, 33, 34, 273, 125, 126, 127, 38, 132, 133, 134, 135, 136, 137, 138, 534, 535, 536, 537, 274, 275, 276, 277, 278, 279, 280, 281, 282, 283, 284, 285, 88, 89, 90, 91, 699, 700, 701, 702, 703, 704, 705, 706, 707, 708, 709, 710, 711] (by decide +kernel) (by decide +kernel)
set_option maxRecDepth 20000 in
theorem gL_law_X1_planLeadsTo : GoodIn wsL_law (wsV RL 201 RX1 yX1_planLeadsTo wsX1_planLeadsTo) := goodIn_app (goodIn_of _ (by decide +kernel)) ggL_law_X1_planLeadsTo
set_option maxRecDepth 20000 in
theorem ggL_law_X0_riskiestFork : GoodIn wsL_law wsX0_riskiestFork := goodIn_r _ [541, 54, 152, 153, 154, 2, 155, 55, 62, 63, 64, 542, 543, 544, 545, 546, 547, 126, 548, 261, 262, 263, 264, 20, 21, 124, 125, 127, 18, 219, 220, 221, 222, 17, 16, 79, 80, 81, 681, 682, 683, 684, 685, 686, 687, 688, 689, 690, 691, 692, 693, 694, 695, 696, 697, 698] (by decide +kernel) (by decide +kernel)
set_option maxRecDepth 20000 in
theorem gL_law_X0_riskiestFork : GoodIn wsL_law (wsV RL 202 RX0 yX0_riskiestFork wsX0_riskiestFork) := goodIn_app (goodIn_of _ (by decide +kernel)) ggL_law_X0_riskiestFork
set_option maxRecDepth 20000 in
theorem ggL_law_X1_riskiestFork : GoodIn wsL_law wsX1_riskiestFork := goodIn_r _ [552, 269, 270, 271, 5, 272, 87, 32, 35, 37, 33, 34, 273, 125, 126, 127, 38, 553, 554, 555, 556, 557, 547, 548, 282, 283, 284, 285, 294, 295, 296, 297, 86, 699, 700, 701, 702, 703, 704, 705, 706, 707, 708, 709, 710, 711] (by decide +kernel) (by decide +kernel)
set_option maxRecDepth 20000 in
theorem gL_law_X1_riskiestFork : GoodIn wsL_law (wsV RL 205 RX1 yX1_riskiestFork wsX1_riskiestFork) := goodIn_app (goodIn_of _ (by decide +kernel)) ggL_law_X1_riskiestFork
set_option maxRecDepth 20000 in
theorem ggL_law_L_hindsight : GoodIn wsL_law wsL_hindsight := goodIn_ca (goodIn_r _ [560, 99, 561, 562, 563, 2, 564, 22, 179, 180, 181, 182, 108, 109, 104, 105, 106, 107, 54, 152, 153, 154, 155, 55, 62, 63, 64, 79, 80, 81, 681, 682, 683, 684, 685, 686, 687, 688, 689, 690, 691, 692, 693, 694, 695, 696, 697, 698] (by decide +kernel) (by decide +kernel)) (goodIn_sub (fun _ h => List.mem_append_right _ h) (by decide +kernel))
set_option maxRecDepth 20000 in
theorem gL_law_L_hindsight : GoodIn wsL_law (va_wsS RL 206 yL_hindsight wsL_hindsight) := goodIn_app (goodIn_of _ (by decide +kernel)) ggL_law_L_hindsight
set_option maxRecDepth 20000 in
theorem ggL_law_X1_hindsight : GoodIn wsL_law wsX1_hindsight := goodIn_r _ [568, 86, 187, 188, 189, 5, 190, 32, 132, 133, 134, 135, 87, 136, 137, 138, 569, 570, 571, 572, 35, 273, 125, 126, 127, 482, 483, 484, 485, 36, 88, 89, 90, 91, 699, 700, 701, 702, 703, 704, 705, 706, 707, 708, 709, 710, 711] (by decide +kernel) (by decide +kernel)
set_option maxRecDepth 20000 in
theorem gL_law_X1_hindsight : GoodIn wsL_law (wsV RL 208 RX1 yX1_hindsight wsX1_hindsight) := goodIn_app (goodIn_of _ (by decide +kernel)) ggL_law_X1_hindsight
set_option maxRecDepth 20000 in
theorem ggL_law_L_regretOf : GoodIn wsL_law wsL_regretOf := goodIn_ca (goodIn_ca (goodIn_r _ [575, 99, 47, 576, 577, 578, 2, 579, 211, 212, 213, 214, 108, 109, 198, 580, 581, 582, 583, 60, 61, 24, 79, 80, 81, 75, 76, 77, 78, 19, 584, 585, 586, 587, 25, 588, 589, 590, 591, 22, 124, 125, 126, 127, 18, 242, 243, 244, 245, 26, 681, 682, 683, 684, 685, 686, 687, 688, 689, 690, 691, 692, 693, 694, 695, 696, 697, 698] (by decide +kernel) (by decide +kernel)) (goodIn_sub (fun _ h => List.mem_append_right _ h) (by decide +kernel))) (goodIn_sub (fun _ h => List.mem_append_left _ (List.mem_append_right _ h)) (by decide +kernel))
set_option maxRecDepth 20000 in
theorem gL_law_L_regretOf : GoodIn wsL_law (va_wsS RL 209 yL_regretOf wsL_regretOf) := goodIn_app (goodIn_of _ (by decide +kernel)) ggL_law_L_regretOf
set_option maxRecDepth 20000 in
theorem ggL_law_X1_regretOf : GoodIn wsL_law wsX1_regretOf := goodIn_r _ [595, 86, 227, 228, 229, 5, 230, 203, 136, 137, 138, 88, 89, 90, 91, 596, 597, 598, 599, 32, 39, 35, 600, 601, 602, 603, 40, 604, 605, 606, 607, 41, 273, 125, 126, 127, 569, 570, 571, 572, 482, 483, 484, 485, 36, 699, 700, 701, 702, 703, 704, 705, 706, 707, 708, 709, 710, 711] (by decide +kernel) (by decide +kernel)
set_option maxRecDepth 20000 in
theorem gL_law_X1_regretOf : GoodIn wsL_law (wsV RL 211 RX1 yX1_regretOf wsX1_regretOf) := goodIn_app (goodIn_of _ (by decide +kernel)) ggL_law_X1_regretOf
set_option maxRecDepth 20000 in
theorem ggL_law_L_worstFork : GoodIn wsL_law wsL_worstFork := goodIn_ca (goodIn_ca (goodIn_r _ [610, 99, 47, 611, 612, 613, 2, 614, 25, 211, 212, 213, 214, 108, 109, 198, 580, 581, 582, 583, 60, 61, 24, 79, 80, 81, 75, 76, 77, 78, 19, 588, 589, 590, 591, 22, 124, 125, 126, 127, 18, 242, 243, 244, 245, 26, 681, 682, 683, 684, 685, 686, 687, 688, 689, 690, 691, 692, 693, 694, 695, 696, 697, 698] (by decide +kernel) (by decide +kernel)) (goodIn_sub (fun _ h => List.mem_append_right _ h) (by decide +kernel))) (goodIn_sub (fun _ h => List.mem_append_left _ (List.mem_append_right _ h)) (by decide +kernel))
set_option maxRecDepth 20000 in
theorem gL_law_L_worstFork : GoodIn wsL_law (va_wsS RL 212 yL_worstFork wsL_worstFork) := goodIn_app (goodIn_of _ (by decide +kernel)) ggL_law_L_worstFork
set_option maxRecDepth 20000 in
theorem ggL_law_X1_worstFork : GoodIn wsL_law wsX1_worstFork := goodIn_r _ [618, 86, 227, 228, 229, 5, 230, 203, 136, 137, 138, 88, 89, 90, 91, 596, 597, 598, 599, 32, 39, 35, 619, 620, 621, 622, 40, 41, 604, 605, 606, 607, 273, 125, 126, 127, 569, 570, 571, 572, 482, 483, 484, 485, 36, 699, 700, 701, 702, 703, 704, 705, 706, 707, 708, 709, 710, 711] (by decide +kernel) (by decide +kernel)
set_option maxRecDepth 20000 in
theorem gL_law_X1_worstFork : GoodIn wsL_law (wsV RL 214 RX1 yX1_worstFork wsX1_worstFork) := goodIn_app (goodIn_of _ (by decide +kernel)) ggL_law_X1_worstFork
set_option maxRecDepth 20000 in
theorem ggL_law_X0_allRegret : GoodIn wsL_law wsX0_allRegret := goodIn_r _ [626, 198, 24, 79, 80, 2, 81, 75, 76, 77, 78, 19, 584, 585, 586, 587, 25, 588, 589, 590, 591, 22, 124, 125, 126, 127, 18, 242, 243, 244, 245, 26, 681, 682, 683, 684, 685, 686, 687, 688, 689, 690, 691, 692, 693, 694, 695, 696, 697, 698] (by decide +kernel) (by decide +kernel)
set_option maxRecDepth 20000 in
theorem gL_law_X0_allRegret : GoodIn wsL_law (wsV RL 215 RX0 yX0_allRegret wsX0_allRegret) := goodIn_app (goodIn_of _ (by decide +kernel)) ggL_law_X0_allRegret
set_option maxRecDepth 20000 in
theorem ggL_law_X1_allRegret : GoodIn wsL_law wsX1_allRegret := goodIn_r _ [630, 631, 632, 633, 5, 634, 203, 596, 597, 598, 599, 32, 39, 35, 600, 601, 602, 603, 40, 604, 605, 606, 607, 41, 273, 125, 126, 127, 569, 570, 571, 572, 482, 483, 484, 485, 36, 294, 295, 296, 297, 86, 699, 700, 701, 702, 703, 704, 705, 706, 707, 708, 709, 710, 711] (by decide +kernel) (by decide +kernel)
set_option maxRecDepth 20000 in
theorem gL_law_X1_allRegret : GoodIn wsL_law (wsV RL 218 RX1 yX1_allRegret wsX1_allRegret) := goodIn_app (goodIn_of _ (by decide +kernel)) ggL_law_X1_allRegret
set_option maxRecDepth 20000 in
theorem ggL_law_X0_meanGrade : GoodIn wsL_law wsX0_meanGrade := goodIn_r _ [638, 146, 147, 681, 682, 683, 684, 685, 686, 687, 688, 689, 690, 691, 692, 693, 694, 695, 696, 697, 698] (by decide +kernel) (by decide +kernel)
set_option maxRecDepth 20000 in
theorem gL_law_X0_meanGrade : GoodIn wsL_law (wsV RL 219 RX0 yX0_meanGrade wsX0_meanGrade) := goodIn_app (goodIn_of _ (by decide +kernel)) ggL_law_X0_meanGrade
set_option maxRecDepth 20000 in
theorem ggL_law_X1_meanGrade : GoodIn wsL_law wsX1_meanGrade := goodIn_r _ [642, 86, 87, 32, 35, 168, 169, 170, 5, 171, 699, 700, 701, 702, 703, 704, 705, 706, 707, 708, 709, 710, 711] (by decide +kernel) (by decide +kernel)
set_option maxRecDepth 20000 in
theorem gL_law_X1_meanGrade : GoodIn wsL_law (wsV RL 223 RX1 yX1_meanGrade wsX1_meanGrade) := goodIn_app (goodIn_of _ (by decide +kernel)) ggL_law_X1_meanGrade
set_option maxRecDepth 20000 in
theorem ggL_law_X0_digest : GoodIn wsL_law wsX0_digest := goodIn_ca (goodIn_r _ [646, 647, 54, 198, 648, 287, 288, 2, 289, 649, 650, 651, 652, 653, 299, 300, 301, 55, 302, 303, 304, 305, 306, 307, 308, 654, 318, 319, 320, 146, 655, 326, 327, 328, 656, 334, 335, 336, 24, 79, 80, 81, 152, 153, 154, 155, 62, 63, 64, 657, 539, 540, 541, 542, 543, 544, 545, 546, 547, 126, 548, 261, 262, 263, 264, 20, 21, 124, 125, 127, 18, 219, 220, 221, 222, 17, 16, 658, 624, 625, 626, 75, 76, 77, 78, 19, 584, 585, 586, 587, 25, 588, 589, 590, 591, 22, 242, 243, 244, 245, 26, 659, 660, 661, 662, 663, 349, 350, 351, 104, 105, 106, 107, 108, 109, 664, 449, 450, 451, 665, 464, 465, 466, 666, 490, 491, 492, 23, 113, 114, 115, 667, 527, 528, 529, 257, 258, 259, 260, 668, 375, 376, 377, 148, 149, 150, 151, 669, 386, 387, 388, 179, 180, 181, 182, 670, 401, 402, 403, 671, 412, 413, 414, 672, 562, 563, 564, 673, 423, 424, 425, 211, 212, 213, 214, 674, 438, 439, 440, 681, 682, 683, 684, 685, 686, 687, 688, 689, 690, 691, 692, 693, 694, 695, 696, 697, 698] (by decide +kernel) (by decide +kernel)) (goodIn_sub (fun _ h => List.mem_append_right _ h) (by decide +kernel))
set_option maxRecDepth 20000 in
theorem gL_law_X0_digest : GoodIn wsL_law (wsV RL 224 RX0 yX0_digest wsX0_digest) := goodIn_app (goodIn_of _ (by decide +kernel)) ggL_law_X0_digest
set_option maxRecDepth 20000 in
theorem ggL_law_X1_digest : GoodIn wsL_law wsX1_digest := goodIn_r _ [678, 86, 13, 87, 203, 679, 680, 32, 37, 38, 33, 34, 35, 39, 40, 269, 270, 271, 5, 272, 273, 125, 126, 127, 313, 314, 315, 316, 168, 169, 170, 171, 341, 342, 343, 344, 553, 554, 555, 556, 557, 547, 548, 282, 283, 284, 285, 631, 632, 633, 634, 596, 597, 598, 599, 600, 601, 602, 603, 604, 605, 606, 607, 41, 569, 570, 571, 572, 482, 483, 484, 485, 36, 497, 498, 499, 500, 534, 535, 536, 537, 274, 275, 276, 277, 278, 279, 280, 281, 699, 700, 701, 702, 703, 704, 705, 706, 707, 708, 709, 710, 711] (by decide +kernel) (by decide +kernel)
set_option maxRecDepth 20000 in
theorem gL_law_X1_digest : GoodIn wsL_law (wsV RL 228 RX1 yX1_digest wsX1_digest) := goodIn_app (goodIn_of _ (by decide +kernel)) ggL_law_X1_digest
theorem dL_law_0 : decode cL_law 0 = .ok (.new 8, 3) := by decide +kernel
theorem dL_law_3 : decode cL_law 3 = .ok (.dup, 1) := by decide +kernel
theorem dL_law_4 : decode cL_law 4 = .ok (.invokespecial 99, 3) := by decide +kernel
theorem dL_law_7 : decode cL_law 7 = .ok (.astore_n 1, 1) := by decide +kernel
theorem dL_law_8 : decode cL_law 8 = .ok (.new 100, 3) := by decide +kernel
theorem dL_law_11 : decode cL_law 11 = .ok (.dup, 1) := by decide +kernel
theorem dL_law_12 : decode cL_law 12 = .ok (.invokespecial 102, 3) := by decide +kernel
theorem dL_law_15 : decode cL_law 15 = .ok (.astore_n 2, 1) := by decide +kernel
theorem dL_law_16 : decode cL_law 16 = .ok (.iconst 1, 1) := by decide +kernel
theorem dL_law_17 : decode cL_law 17 = .ok (.newarray .long, 2) := by decide +kernel
theorem dL_law_19 : decode cL_law 19 = .ok (.astore_n 3, 1) := by decide +kernel
theorem dL_law_20 : decode cL_law 20 = .ok (.iconst 0, 1) := by decide +kernel
theorem dL_law_21 : decode cL_law 21 = .ok (.istore 4, 2) := by decide +kernel
theorem dL_law_23 : decode cL_law 23 = .ok (.iload 4, 2) := by decide +kernel
theorem dL_law_25 : decode cL_law 25 = .ok (.aload_n 0, 1) := by decide +kernel
theorem dL_law_26 : decode cL_law 26 = .ok (.arraylength, 1) := by decide +kernel
theorem dL_law_27 : decode cL_law 27 = .ok (.iconst 4, 1) := by decide +kernel
theorem dL_law_28 : decode cL_law 28 = .ok (.isub, 1) := by decide +kernel
theorem dL_law_29 : decode cL_law 29 = .ok (.if_icmp .gt 1927, 3) := by decide +kernel
theorem dL_law_32 : decode cL_law 32 = .ok (.aload_n 0, 1) := by decide +kernel
theorem dL_law_33 : decode cL_law 33 = .ok (.iload 4, 2) := by decide +kernel
theorem dL_law_35 : decode cL_law 35 = .ok (.iaload, 1) := by decide +kernel
theorem dL_law_36 : decode cL_law 36 = .ok (.bipush 63, 2) := by decide +kernel
theorem dL_law_38 : decode cL_law 38 = .ok (.iand, 1) := by decide +kernel
theorem dL_law_39 : decode cL_law 39 = .ok (.tableswitch 1911 0 34 #[153, 221, 301, 369, 437, 493, 577, 633, 689, 702, 715, 728, 741, 754, 817, 880, 936, 992, 1048, 1104, 1160, 1216, 1272, 1328, 1403, 1459, 1543, 1606, 1662, 1675, 1731, 1787, 1843, 1856, 1897], 153) := by decide +kernel
theorem dL_law_192 : decode cL_law 192 = .ok (.aload_n 1, 1) := by decide +kernel
theorem dL_law_193 : decode cL_law 193 = .ok (.aload_n 0, 1) := by decide +kernel
theorem dL_law_194 : decode cL_law 194 = .ok (.iload 4, 2) := by decide +kernel
theorem dL_law_196 : decode cL_law 196 = .ok (.iconst 1, 1) := by decide +kernel
theorem dL_law_197 : decode cL_law 197 = .ok (.iadd, 1) := by decide +kernel
theorem dL_law_198 : decode cL_law 198 = .ok (.iaload, 1) := by decide +kernel
theorem dL_law_199 : decode cL_law 199 = .ok (.aload_n 0, 1) := by decide +kernel
theorem dL_law_200 : decode cL_law 200 = .ok (.iload 4, 2) := by decide +kernel
theorem dL_law_202 : decode cL_law 202 = .ok (.iconst 2, 1) := by decide +kernel
theorem dL_law_203 : decode cL_law 203 = .ok (.iadd, 1) := by decide +kernel
theorem dL_law_204 : decode cL_law 204 = .ok (.iaload, 1) := by decide +kernel
theorem dL_law_205 : decode cL_law 205 = .ok (.aload_n 3, 1) := by decide +kernel
theorem dL_law_206 : decode cL_law 206 = .ok (.invokestatic 103, 3) := by decide +kernel
theorem dL_law_209 : decode cL_law 209 = .ok (.istore 5, 2) := by decide +kernel
theorem dL_law_211 : decode cL_law 211 = .ok (.aload_n 2, 1) := by decide +kernel
theorem dL_law_212 : decode cL_law 212 = .ok (.aload_n 0, 1) := by decide +kernel
theorem dL_law_213 : decode cL_law 213 = .ok (.iload 4, 2) := by decide +kernel
theorem dL_law_215 : decode cL_law 215 = .ok (.iconst 1, 1) := by decide +kernel
theorem dL_law_216 : decode cL_law 216 = .ok (.iadd, 1) := by decide +kernel
theorem dL_law_217 : decode cL_law 217 = .ok (.iaload, 1) := by decide +kernel
theorem dL_law_218 : decode cL_law 218 = .ok (.aload_n 0, 1) := by decide +kernel
theorem dL_law_219 : decode cL_law 219 = .ok (.iload 4, 2) := by decide +kernel
theorem dL_law_221 : decode cL_law 221 = .ok (.iconst 2, 1) := by decide +kernel
theorem dL_law_222 : decode cL_law 222 = .ok (.iadd, 1) := by decide +kernel
theorem dL_law_223 : decode cL_law 223 = .ok (.iaload, 1) := by decide +kernel
theorem dL_law_224 : decode cL_law 224 = .ok (.invokevirtual 108, 3) := by decide +kernel
theorem dL_law_227 : decode cL_law 227 = .ok (.istore 6, 2) := by decide +kernel
theorem dL_law_229 : decode cL_law 229 = .ok (.aload_n 2, 1) := by decide +kernel
theorem dL_law_230 : decode cL_law 230 = .ok (.invokevirtual 109, 3) := by decide +kernel
theorem dL_law_233 : decode cL_law 233 = .ok (.iload 5, 2) := by decide +kernel
theorem dL_law_235 : decode cL_law 235 = .ok (.if_icmp .eq 5, 3) := by decide +kernel
theorem dL_law_238 : decode cL_law 238 = .ok (.iconst 0, 1) := by decide +kernel
theorem dL_law_239 : decode cL_law 239 = .ok (.ireturn, 1) := by decide +kernel
theorem dL_law_240 : decode cL_law 240 = .ok (.iload 5, 2) := by decide +kernel
theorem dL_law_242 : decode cL_law 242 = .ok (.ifCond .ne 15, 3) := by decide +kernel
theorem dL_law_245 : decode cL_law 245 = .ok (.aload_n 3, 1) := by decide +kernel
theorem dL_law_246 : decode cL_law 246 = .ok (.iconst 0, 1) := by decide +kernel
theorem dL_law_247 : decode cL_law 247 = .ok (.laload, 1) := by decide +kernel
theorem dL_law_248 : decode cL_law 248 = .ok (.iload 6, 2) := by decide +kernel
theorem dL_law_250 : decode cL_law 250 = .ok (.i2l, 1) := by decide +kernel
theorem dL_law_251 : decode cL_law 251 = .ok (.lcmp, 1) := by decide +kernel
theorem dL_law_252 : decode cL_law 252 = .ok (.ifCond .eq 5, 3) := by decide +kernel
theorem dL_law_255 : decode cL_law 255 = .ok (.iconst 0, 1) := by decide +kernel
theorem dL_law_256 : decode cL_law 256 = .ok (.ireturn, 1) := by decide +kernel
theorem dL_law_257 : decode cL_law 257 = .ok (.goto 1693, 3) := by decide +kernel
theorem dL_law_260 : decode cL_law 260 = .ok (.aload_n 1, 1) := by decide +kernel
theorem dL_law_261 : decode cL_law 261 = .ok (.aload_n 0, 1) := by decide +kernel
theorem dL_law_262 : decode cL_law 262 = .ok (.iload 4, 2) := by decide +kernel
theorem dL_law_264 : decode cL_law 264 = .ok (.iconst 1, 1) := by decide +kernel
theorem dL_law_265 : decode cL_law 265 = .ok (.iadd, 1) := by decide +kernel
theorem dL_law_266 : decode cL_law 266 = .ok (.iaload, 1) := by decide +kernel
theorem dL_law_267 : decode cL_law 267 = .ok (.aload_n 0, 1) := by decide +kernel
theorem dL_law_268 : decode cL_law 268 = .ok (.iload 4, 2) := by decide +kernel
theorem dL_law_270 : decode cL_law 270 = .ok (.iconst 2, 1) := by decide +kernel
theorem dL_law_271 : decode cL_law 271 = .ok (.iadd, 1) := by decide +kernel
theorem dL_law_272 : decode cL_law 272 = .ok (.iaload, 1) := by decide +kernel
theorem dL_law_273 : decode cL_law 273 = .ok (.aload_n 0, 1) := by decide +kernel
theorem dL_law_274 : decode cL_law 274 = .ok (.iload 4, 2) := by decide +kernel
theorem dL_law_276 : decode cL_law 276 = .ok (.iconst 3, 1) := by decide +kernel
theorem dL_law_277 : decode cL_law 277 = .ok (.iadd, 1) := by decide +kernel
theorem dL_law_278 : decode cL_law 278 = .ok (.iaload, 1) := by decide +kernel
theorem dL_law_279 : decode cL_law 279 = .ok (.aload_n 3, 1) := by decide +kernel
theorem dL_law_280 : decode cL_law 280 = .ok (.invokestatic 113, 3) := by decide +kernel
theorem dL_law_283 : decode cL_law 283 = .ok (.istore 5, 2) := by decide +kernel
theorem dL_law_285 : decode cL_law 285 = .ok (.aload_n 2, 1) := by decide +kernel
theorem dL_law_286 : decode cL_law 286 = .ok (.aload_n 0, 1) := by decide +kernel
theorem dL_law_287 : decode cL_law 287 = .ok (.iload 4, 2) := by decide +kernel
theorem dL_law_289 : decode cL_law 289 = .ok (.iconst 1, 1) := by decide +kernel
theorem dL_law_290 : decode cL_law 290 = .ok (.iadd, 1) := by decide +kernel
theorem dL_law_291 : decode cL_law 291 = .ok (.iaload, 1) := by decide +kernel
theorem dL_law_292 : decode cL_law 292 = .ok (.aload_n 0, 1) := by decide +kernel
theorem dL_law_293 : decode cL_law 293 = .ok (.iload 4, 2) := by decide +kernel
theorem dL_law_295 : decode cL_law 295 = .ok (.iconst 2, 1) := by decide +kernel
theorem dL_law_296 : decode cL_law 296 = .ok (.iadd, 1) := by decide +kernel
theorem dL_law_297 : decode cL_law 297 = .ok (.iaload, 1) := by decide +kernel
theorem dL_law_298 : decode cL_law 298 = .ok (.aload_n 0, 1) := by decide +kernel
theorem dL_law_299 : decode cL_law 299 = .ok (.iload 4, 2) := by decide +kernel
theorem dL_law_301 : decode cL_law 301 = .ok (.iconst 3, 1) := by decide +kernel
theorem dL_law_302 : decode cL_law 302 = .ok (.iadd, 1) := by decide +kernel
theorem dL_law_303 : decode cL_law 303 = .ok (.iaload, 1) := by decide +kernel
theorem dL_law_304 : decode cL_law 304 = .ok (.invokevirtual 116, 3) := by decide +kernel
theorem dL_law_307 : decode cL_law 307 = .ok (.istore 6, 2) := by decide +kernel
theorem dL_law_309 : decode cL_law 309 = .ok (.aload_n 2, 1) := by decide +kernel
theorem dL_law_310 : decode cL_law 310 = .ok (.invokevirtual 109, 3) := by decide +kernel
theorem dL_law_313 : decode cL_law 313 = .ok (.iload 5, 2) := by decide +kernel
theorem dL_law_315 : decode cL_law 315 = .ok (.if_icmp .eq 5, 3) := by decide +kernel
theorem dL_law_318 : decode cL_law 318 = .ok (.iconst 0, 1) := by decide +kernel
theorem dL_law_319 : decode cL_law 319 = .ok (.ireturn, 1) := by decide +kernel
theorem dL_law_320 : decode cL_law 320 = .ok (.iload 5, 2) := by decide +kernel
theorem dL_law_322 : decode cL_law 322 = .ok (.ifCond .ne 15, 3) := by decide +kernel
theorem dL_law_325 : decode cL_law 325 = .ok (.aload_n 3, 1) := by decide +kernel
theorem dL_law_326 : decode cL_law 326 = .ok (.iconst 0, 1) := by decide +kernel
theorem dL_law_327 : decode cL_law 327 = .ok (.laload, 1) := by decide +kernel
theorem dL_law_328 : decode cL_law 328 = .ok (.iload 6, 2) := by decide +kernel
theorem dL_law_330 : decode cL_law 330 = .ok (.i2l, 1) := by decide +kernel
theorem dL_law_331 : decode cL_law 331 = .ok (.lcmp, 1) := by decide +kernel
theorem dL_law_332 : decode cL_law 332 = .ok (.ifCond .eq 5, 3) := by decide +kernel
theorem dL_law_335 : decode cL_law 335 = .ok (.iconst 0, 1) := by decide +kernel
theorem dL_law_336 : decode cL_law 336 = .ok (.ireturn, 1) := by decide +kernel
theorem dL_law_337 : decode cL_law 337 = .ok (.goto 1613, 3) := by decide +kernel
theorem dL_law_340 : decode cL_law 340 = .ok (.aload_n 1, 1) := by decide +kernel
theorem dL_law_341 : decode cL_law 341 = .ok (.aload_n 0, 1) := by decide +kernel
theorem dL_law_342 : decode cL_law 342 = .ok (.iload 4, 2) := by decide +kernel
theorem dL_law_344 : decode cL_law 344 = .ok (.iconst 1, 1) := by decide +kernel
theorem dL_law_345 : decode cL_law 345 = .ok (.iadd, 1) := by decide +kernel
theorem dL_law_346 : decode cL_law 346 = .ok (.iaload, 1) := by decide +kernel
theorem dL_law_347 : decode cL_law 347 = .ok (.aload_n 0, 1) := by decide +kernel
theorem dL_law_348 : decode cL_law 348 = .ok (.iload 4, 2) := by decide +kernel
theorem dL_law_350 : decode cL_law 350 = .ok (.iconst 2, 1) := by decide +kernel
theorem dL_law_351 : decode cL_law 351 = .ok (.iadd, 1) := by decide +kernel
theorem dL_law_352 : decode cL_law 352 = .ok (.iaload, 1) := by decide +kernel
theorem dL_law_353 : decode cL_law 353 = .ok (.aload_n 3, 1) := by decide +kernel
theorem dL_law_354 : decode cL_law 354 = .ok (.invokestatic 117, 3) := by decide +kernel
theorem dL_law_357 : decode cL_law 357 = .ok (.istore 5, 2) := by decide +kernel
theorem dL_law_359 : decode cL_law 359 = .ok (.aload_n 2, 1) := by decide +kernel
theorem dL_law_360 : decode cL_law 360 = .ok (.aload_n 0, 1) := by decide +kernel
theorem dL_law_361 : decode cL_law 361 = .ok (.iload 4, 2) := by decide +kernel
theorem dL_law_363 : decode cL_law 363 = .ok (.iconst 1, 1) := by decide +kernel
theorem dL_law_364 : decode cL_law 364 = .ok (.iadd, 1) := by decide +kernel
theorem dL_law_365 : decode cL_law 365 = .ok (.iaload, 1) := by decide +kernel
theorem dL_law_366 : decode cL_law 366 = .ok (.aload_n 0, 1) := by decide +kernel
theorem dL_law_367 : decode cL_law 367 = .ok (.iload 4, 2) := by decide +kernel
theorem dL_law_369 : decode cL_law 369 = .ok (.iconst 2, 1) := by decide +kernel
theorem dL_law_370 : decode cL_law 370 = .ok (.iadd, 1) := by decide +kernel
theorem dL_law_371 : decode cL_law 371 = .ok (.iaload, 1) := by decide +kernel
theorem dL_law_372 : decode cL_law 372 = .ok (.invokevirtual 119, 3) := by decide +kernel
theorem dL_law_375 : decode cL_law 375 = .ok (.istore 6, 2) := by decide +kernel
theorem dL_law_377 : decode cL_law 377 = .ok (.aload_n 2, 1) := by decide +kernel
theorem dL_law_378 : decode cL_law 378 = .ok (.invokevirtual 109, 3) := by decide +kernel
theorem dL_law_381 : decode cL_law 381 = .ok (.iload 5, 2) := by decide +kernel
theorem dL_law_383 : decode cL_law 383 = .ok (.if_icmp .eq 5, 3) := by decide +kernel
theorem dL_law_386 : decode cL_law 386 = .ok (.iconst 0, 1) := by decide +kernel
theorem dL_law_387 : decode cL_law 387 = .ok (.ireturn, 1) := by decide +kernel
theorem dL_law_388 : decode cL_law 388 = .ok (.iload 5, 2) := by decide +kernel
theorem dL_law_390 : decode cL_law 390 = .ok (.ifCond .ne 15, 3) := by decide +kernel
theorem dL_law_393 : decode cL_law 393 = .ok (.aload_n 3, 1) := by decide +kernel
theorem dL_law_394 : decode cL_law 394 = .ok (.iconst 0, 1) := by decide +kernel
theorem dL_law_395 : decode cL_law 395 = .ok (.laload, 1) := by decide +kernel
theorem dL_law_396 : decode cL_law 396 = .ok (.iload 6, 2) := by decide +kernel
theorem dL_law_398 : decode cL_law 398 = .ok (.i2l, 1) := by decide +kernel
theorem dL_law_399 : decode cL_law 399 = .ok (.lcmp, 1) := by decide +kernel
theorem dL_law_400 : decode cL_law 400 = .ok (.ifCond .eq 5, 3) := by decide +kernel
theorem dL_law_403 : decode cL_law 403 = .ok (.iconst 0, 1) := by decide +kernel
theorem dL_law_404 : decode cL_law 404 = .ok (.ireturn, 1) := by decide +kernel
theorem dL_law_405 : decode cL_law 405 = .ok (.goto 1545, 3) := by decide +kernel
theorem dL_law_408 : decode cL_law 408 = .ok (.aload_n 1, 1) := by decide +kernel
theorem dL_law_409 : decode cL_law 409 = .ok (.aload_n 0, 1) := by decide +kernel
theorem dL_law_410 : decode cL_law 410 = .ok (.iload 4, 2) := by decide +kernel
theorem dL_law_412 : decode cL_law 412 = .ok (.iconst 1, 1) := by decide +kernel
theorem dL_law_413 : decode cL_law 413 = .ok (.iadd, 1) := by decide +kernel
theorem dL_law_414 : decode cL_law 414 = .ok (.iaload, 1) := by decide +kernel
theorem dL_law_415 : decode cL_law 415 = .ok (.aload_n 0, 1) := by decide +kernel
theorem dL_law_416 : decode cL_law 416 = .ok (.iload 4, 2) := by decide +kernel
theorem dL_law_418 : decode cL_law 418 = .ok (.iconst 2, 1) := by decide +kernel
theorem dL_law_419 : decode cL_law 419 = .ok (.iadd, 1) := by decide +kernel
theorem dL_law_420 : decode cL_law 420 = .ok (.iaload, 1) := by decide +kernel
theorem dL_law_421 : decode cL_law 421 = .ok (.aload_n 3, 1) := by decide +kernel
theorem dL_law_422 : decode cL_law 422 = .ok (.invokestatic 120, 3) := by decide +kernel
theorem dL_law_425 : decode cL_law 425 = .ok (.istore 5, 2) := by decide +kernel
theorem dL_law_427 : decode cL_law 427 = .ok (.aload_n 2, 1) := by decide +kernel
theorem dL_law_428 : decode cL_law 428 = .ok (.aload_n 0, 1) := by decide +kernel
theorem dL_law_429 : decode cL_law 429 = .ok (.iload 4, 2) := by decide +kernel
theorem dL_law_431 : decode cL_law 431 = .ok (.iconst 1, 1) := by decide +kernel
theorem dL_law_432 : decode cL_law 432 = .ok (.iadd, 1) := by decide +kernel
theorem dL_law_433 : decode cL_law 433 = .ok (.iaload, 1) := by decide +kernel
theorem dL_law_434 : decode cL_law 434 = .ok (.aload_n 0, 1) := by decide +kernel
theorem dL_law_435 : decode cL_law 435 = .ok (.iload 4, 2) := by decide +kernel
theorem dL_law_437 : decode cL_law 437 = .ok (.iconst 2, 1) := by decide +kernel
theorem dL_law_438 : decode cL_law 438 = .ok (.iadd, 1) := by decide +kernel
theorem dL_law_439 : decode cL_law 439 = .ok (.iaload, 1) := by decide +kernel
theorem dL_law_440 : decode cL_law 440 = .ok (.invokevirtual 122, 3) := by decide +kernel
theorem dL_law_443 : decode cL_law 443 = .ok (.istore 6, 2) := by decide +kernel
theorem dL_law_445 : decode cL_law 445 = .ok (.aload_n 2, 1) := by decide +kernel
theorem dL_law_446 : decode cL_law 446 = .ok (.invokevirtual 109, 3) := by decide +kernel
theorem dL_law_449 : decode cL_law 449 = .ok (.iload 5, 2) := by decide +kernel
theorem dL_law_451 : decode cL_law 451 = .ok (.if_icmp .eq 5, 3) := by decide +kernel
theorem dL_law_454 : decode cL_law 454 = .ok (.iconst 0, 1) := by decide +kernel
theorem dL_law_455 : decode cL_law 455 = .ok (.ireturn, 1) := by decide +kernel
theorem dL_law_456 : decode cL_law 456 = .ok (.iload 5, 2) := by decide +kernel
theorem dL_law_458 : decode cL_law 458 = .ok (.ifCond .ne 15, 3) := by decide +kernel
theorem dL_law_461 : decode cL_law 461 = .ok (.aload_n 3, 1) := by decide +kernel
theorem dL_law_462 : decode cL_law 462 = .ok (.iconst 0, 1) := by decide +kernel
theorem dL_law_463 : decode cL_law 463 = .ok (.laload, 1) := by decide +kernel
theorem dL_law_464 : decode cL_law 464 = .ok (.iload 6, 2) := by decide +kernel
theorem dL_law_466 : decode cL_law 466 = .ok (.i2l, 1) := by decide +kernel
theorem dL_law_467 : decode cL_law 467 = .ok (.lcmp, 1) := by decide +kernel
theorem dL_law_468 : decode cL_law 468 = .ok (.ifCond .eq 5, 3) := by decide +kernel
theorem dL_law_471 : decode cL_law 471 = .ok (.iconst 0, 1) := by decide +kernel
theorem dL_law_472 : decode cL_law 472 = .ok (.ireturn, 1) := by decide +kernel
theorem dL_law_473 : decode cL_law 473 = .ok (.goto 1477, 3) := by decide +kernel
theorem dL_law_476 : decode cL_law 476 = .ok (.aload_n 1, 1) := by decide +kernel
theorem dL_law_477 : decode cL_law 477 = .ok (.aload_n 0, 1) := by decide +kernel
theorem dL_law_478 : decode cL_law 478 = .ok (.iload 4, 2) := by decide +kernel
theorem dL_law_480 : decode cL_law 480 = .ok (.iconst 1, 1) := by decide +kernel
theorem dL_law_481 : decode cL_law 481 = .ok (.iadd, 1) := by decide +kernel
theorem dL_law_482 : decode cL_law 482 = .ok (.iaload, 1) := by decide +kernel
theorem dL_law_483 : decode cL_law 483 = .ok (.aload_n 3, 1) := by decide +kernel
theorem dL_law_484 : decode cL_law 484 = .ok (.invokestatic 123, 3) := by decide +kernel
theorem dL_law_487 : decode cL_law 487 = .ok (.istore 5, 2) := by decide +kernel
theorem dL_law_489 : decode cL_law 489 = .ok (.aload_n 2, 1) := by decide +kernel
theorem dL_law_490 : decode cL_law 490 = .ok (.aload_n 0, 1) := by decide +kernel
theorem dL_law_491 : decode cL_law 491 = .ok (.iload 4, 2) := by decide +kernel
theorem dL_law_493 : decode cL_law 493 = .ok (.iconst 1, 1) := by decide +kernel
theorem dL_law_494 : decode cL_law 494 = .ok (.iadd, 1) := by decide +kernel
theorem dL_law_495 : decode cL_law 495 = .ok (.iaload, 1) := by decide +kernel
theorem dL_law_496 : decode cL_law 496 = .ok (.invokevirtual 126, 3) := by decide +kernel
theorem dL_law_499 : decode cL_law 499 = .ok (.istore 6, 2) := by decide +kernel
theorem dL_law_501 : decode cL_law 501 = .ok (.aload_n 2, 1) := by decide +kernel
theorem dL_law_502 : decode cL_law 502 = .ok (.invokevirtual 109, 3) := by decide +kernel
theorem dL_law_505 : decode cL_law 505 = .ok (.iload 5, 2) := by decide +kernel
theorem dL_law_507 : decode cL_law 507 = .ok (.if_icmp .eq 5, 3) := by decide +kernel
theorem dL_law_510 : decode cL_law 510 = .ok (.iconst 0, 1) := by decide +kernel
theorem dL_law_511 : decode cL_law 511 = .ok (.ireturn, 1) := by decide +kernel
theorem dL_law_512 : decode cL_law 512 = .ok (.iload 5, 2) := by decide +kernel
theorem dL_law_514 : decode cL_law 514 = .ok (.ifCond .ne 15, 3) := by decide +kernel
theorem dL_law_517 : decode cL_law 517 = .ok (.aload_n 3, 1) := by decide +kernel
theorem dL_law_518 : decode cL_law 518 = .ok (.iconst 0, 1) := by decide +kernel
theorem dL_law_519 : decode cL_law 519 = .ok (.laload, 1) := by decide +kernel
theorem dL_law_520 : decode cL_law 520 = .ok (.iload 6, 2) := by decide +kernel
theorem dL_law_522 : decode cL_law 522 = .ok (.i2l, 1) := by decide +kernel
theorem dL_law_523 : decode cL_law 523 = .ok (.lcmp, 1) := by decide +kernel
theorem dL_law_524 : decode cL_law 524 = .ok (.ifCond .eq 5, 3) := by decide +kernel
theorem dL_law_527 : decode cL_law 527 = .ok (.iconst 0, 1) := by decide +kernel
theorem dL_law_528 : decode cL_law 528 = .ok (.ireturn, 1) := by decide +kernel
theorem dL_law_529 : decode cL_law 529 = .ok (.goto 1421, 3) := by decide +kernel
theorem dL_law_532 : decode cL_law 532 = .ok (.aload_n 1, 1) := by decide +kernel
theorem dL_law_533 : decode cL_law 533 = .ok (.aload_n 0, 1) := by decide +kernel
theorem dL_law_534 : decode cL_law 534 = .ok (.iload 4, 2) := by decide +kernel
theorem dL_law_536 : decode cL_law 536 = .ok (.iconst 1, 1) := by decide +kernel
theorem dL_law_537 : decode cL_law 537 = .ok (.iadd, 1) := by decide +kernel
theorem dL_law_538 : decode cL_law 538 = .ok (.iaload, 1) := by decide +kernel
theorem dL_law_539 : decode cL_law 539 = .ok (.aload_n 0, 1) := by decide +kernel
theorem dL_law_540 : decode cL_law 540 = .ok (.iload 4, 2) := by decide +kernel
theorem dL_law_542 : decode cL_law 542 = .ok (.iconst 2, 1) := by decide +kernel
theorem dL_law_543 : decode cL_law 543 = .ok (.iadd, 1) := by decide +kernel
theorem dL_law_544 : decode cL_law 544 = .ok (.iaload, 1) := by decide +kernel
theorem dL_law_545 : decode cL_law 545 = .ok (.ifCond .eq 7, 3) := by decide +kernel
theorem dL_law_548 : decode cL_law 548 = .ok (.iconst 1, 1) := by decide +kernel
theorem dL_law_549 : decode cL_law 549 = .ok (.goto 4, 3) := by decide +kernel
theorem dL_law_552 : decode cL_law 552 = .ok (.iconst 0, 1) := by decide +kernel
theorem dL_law_553 : decode cL_law 553 = .ok (.aload_n 3, 1) := by decide +kernel
theorem dL_law_554 : decode cL_law 554 = .ok (.invokestatic 127, 3) := by decide +kernel
theorem dL_law_557 : decode cL_law 557 = .ok (.istore 5, 2) := by decide +kernel
theorem dL_law_559 : decode cL_law 559 = .ok (.aload_n 2, 1) := by decide +kernel
theorem dL_law_560 : decode cL_law 560 = .ok (.aload_n 0, 1) := by decide +kernel
theorem dL_law_561 : decode cL_law 561 = .ok (.iload 4, 2) := by decide +kernel
theorem dL_law_563 : decode cL_law 563 = .ok (.iconst 1, 1) := by decide +kernel
theorem dL_law_564 : decode cL_law 564 = .ok (.iadd, 1) := by decide +kernel
theorem dL_law_565 : decode cL_law 565 = .ok (.iaload, 1) := by decide +kernel
theorem dL_law_566 : decode cL_law 566 = .ok (.aload_n 0, 1) := by decide +kernel
theorem dL_law_567 : decode cL_law 567 = .ok (.iload 4, 2) := by decide +kernel
theorem dL_law_569 : decode cL_law 569 = .ok (.iconst 2, 1) := by decide +kernel
theorem dL_law_570 : decode cL_law 570 = .ok (.iadd, 1) := by decide +kernel
theorem dL_law_571 : decode cL_law 571 = .ok (.iaload, 1) := by decide +kernel
theorem dL_law_572 : decode cL_law 572 = .ok (.ifCond .eq 7, 3) := by decide +kernel
theorem dL_law_575 : decode cL_law 575 = .ok (.iconst 1, 1) := by decide +kernel
theorem dL_law_576 : decode cL_law 576 = .ok (.goto 4, 3) := by decide +kernel
theorem dL_law_579 : decode cL_law 579 = .ok (.iconst 0, 1) := by decide +kernel
theorem dL_law_580 : decode cL_law 580 = .ok (.invokevirtual 130, 3) := by decide +kernel
theorem dL_law_583 : decode cL_law 583 = .ok (.istore 6, 2) := by decide +kernel
theorem dL_law_585 : decode cL_law 585 = .ok (.aload_n 2, 1) := by decide +kernel
theorem dL_law_586 : decode cL_law 586 = .ok (.invokevirtual 109, 3) := by decide +kernel
theorem dL_law_589 : decode cL_law 589 = .ok (.iload 5, 2) := by decide +kernel
theorem dL_law_591 : decode cL_law 591 = .ok (.if_icmp .eq 5, 3) := by decide +kernel
theorem dL_law_594 : decode cL_law 594 = .ok (.iconst 0, 1) := by decide +kernel
theorem dL_law_595 : decode cL_law 595 = .ok (.ireturn, 1) := by decide +kernel
theorem dL_law_596 : decode cL_law 596 = .ok (.iload 5, 2) := by decide +kernel
theorem dL_law_598 : decode cL_law 598 = .ok (.ifCond .ne 15, 3) := by decide +kernel
theorem dL_law_601 : decode cL_law 601 = .ok (.aload_n 3, 1) := by decide +kernel
theorem dL_law_602 : decode cL_law 602 = .ok (.iconst 0, 1) := by decide +kernel
theorem dL_law_603 : decode cL_law 603 = .ok (.laload, 1) := by decide +kernel
theorem dL_law_604 : decode cL_law 604 = .ok (.iload 6, 2) := by decide +kernel
theorem dL_law_606 : decode cL_law 606 = .ok (.i2l, 1) := by decide +kernel
theorem dL_law_607 : decode cL_law 607 = .ok (.lcmp, 1) := by decide +kernel
theorem dL_law_608 : decode cL_law 608 = .ok (.ifCond .eq 5, 3) := by decide +kernel
theorem dL_law_611 : decode cL_law 611 = .ok (.iconst 0, 1) := by decide +kernel
theorem dL_law_612 : decode cL_law 612 = .ok (.ireturn, 1) := by decide +kernel
theorem dL_law_613 : decode cL_law 613 = .ok (.goto 1337, 3) := by decide +kernel
theorem dL_law_616 : decode cL_law 616 = .ok (.aload_n 1, 1) := by decide +kernel
theorem dL_law_617 : decode cL_law 617 = .ok (.aload_n 0, 1) := by decide +kernel
theorem dL_law_618 : decode cL_law 618 = .ok (.iload 4, 2) := by decide +kernel
theorem dL_law_620 : decode cL_law 620 = .ok (.iconst 1, 1) := by decide +kernel
theorem dL_law_621 : decode cL_law 621 = .ok (.iadd, 1) := by decide +kernel
theorem dL_law_622 : decode cL_law 622 = .ok (.iaload, 1) := by decide +kernel
theorem dL_law_623 : decode cL_law 623 = .ok (.aload_n 3, 1) := by decide +kernel
theorem dL_law_624 : decode cL_law 624 = .ok (.invokestatic 131, 3) := by decide +kernel
theorem dL_law_627 : decode cL_law 627 = .ok (.istore 5, 2) := by decide +kernel
theorem dL_law_629 : decode cL_law 629 = .ok (.aload_n 2, 1) := by decide +kernel
theorem dL_law_630 : decode cL_law 630 = .ok (.aload_n 0, 1) := by decide +kernel
theorem dL_law_631 : decode cL_law 631 = .ok (.iload 4, 2) := by decide +kernel
theorem dL_law_633 : decode cL_law 633 = .ok (.iconst 1, 1) := by decide +kernel
theorem dL_law_634 : decode cL_law 634 = .ok (.iadd, 1) := by decide +kernel
theorem dL_law_635 : decode cL_law 635 = .ok (.iaload, 1) := by decide +kernel
theorem dL_law_636 : decode cL_law 636 = .ok (.invokevirtual 133, 3) := by decide +kernel
theorem dL_law_639 : decode cL_law 639 = .ok (.istore 6, 2) := by decide +kernel
theorem dL_law_641 : decode cL_law 641 = .ok (.aload_n 2, 1) := by decide +kernel
theorem dL_law_642 : decode cL_law 642 = .ok (.invokevirtual 109, 3) := by decide +kernel
theorem dL_law_645 : decode cL_law 645 = .ok (.iload 5, 2) := by decide +kernel
theorem dL_law_647 : decode cL_law 647 = .ok (.if_icmp .eq 5, 3) := by decide +kernel
theorem dL_law_650 : decode cL_law 650 = .ok (.iconst 0, 1) := by decide +kernel
theorem dL_law_651 : decode cL_law 651 = .ok (.ireturn, 1) := by decide +kernel
theorem dL_law_652 : decode cL_law 652 = .ok (.iload 5, 2) := by decide +kernel
theorem dL_law_654 : decode cL_law 654 = .ok (.ifCond .ne 15, 3) := by decide +kernel
theorem dL_law_657 : decode cL_law 657 = .ok (.aload_n 3, 1) := by decide +kernel
theorem dL_law_658 : decode cL_law 658 = .ok (.iconst 0, 1) := by decide +kernel
theorem dL_law_659 : decode cL_law 659 = .ok (.laload, 1) := by decide +kernel
theorem dL_law_660 : decode cL_law 660 = .ok (.iload 6, 2) := by decide +kernel
theorem dL_law_662 : decode cL_law 662 = .ok (.i2l, 1) := by decide +kernel
theorem dL_law_663 : decode cL_law 663 = .ok (.lcmp, 1) := by decide +kernel
theorem dL_law_664 : decode cL_law 664 = .ok (.ifCond .eq 5, 3) := by decide +kernel
theorem dL_law_667 : decode cL_law 667 = .ok (.iconst 0, 1) := by decide +kernel
theorem dL_law_668 : decode cL_law 668 = .ok (.ireturn, 1) := by decide +kernel
theorem dL_law_669 : decode cL_law 669 = .ok (.goto 1281, 3) := by decide +kernel
theorem dL_law_672 : decode cL_law 672 = .ok (.aload_n 1, 1) := by decide +kernel
theorem dL_law_673 : decode cL_law 673 = .ok (.aload_n 0, 1) := by decide +kernel
theorem dL_law_674 : decode cL_law 674 = .ok (.iload 4, 2) := by decide +kernel
theorem dL_law_676 : decode cL_law 676 = .ok (.iconst 1, 1) := by decide +kernel
theorem dL_law_677 : decode cL_law 677 = .ok (.iadd, 1) := by decide +kernel
theorem dL_law_678 : decode cL_law 678 = .ok (.iaload, 1) := by decide +kernel
theorem dL_law_679 : decode cL_law 679 = .ok (.aload_n 3, 1) := by decide +kernel
theorem dL_law_680 : decode cL_law 680 = .ok (.invokestatic 134, 3) := by decide +kernel
theorem dL_law_683 : decode cL_law 683 = .ok (.istore 5, 2) := by decide +kernel
theorem dL_law_685 : decode cL_law 685 = .ok (.aload_n 2, 1) := by decide +kernel
theorem dL_law_686 : decode cL_law 686 = .ok (.aload_n 0, 1) := by decide +kernel
theorem dL_law_687 : decode cL_law 687 = .ok (.iload 4, 2) := by decide +kernel
theorem dL_law_689 : decode cL_law 689 = .ok (.iconst 1, 1) := by decide +kernel
theorem dL_law_690 : decode cL_law 690 = .ok (.iadd, 1) := by decide +kernel
theorem dL_law_691 : decode cL_law 691 = .ok (.iaload, 1) := by decide +kernel
theorem dL_law_692 : decode cL_law 692 = .ok (.invokevirtual 136, 3) := by decide +kernel
theorem dL_law_695 : decode cL_law 695 = .ok (.istore 6, 2) := by decide +kernel
theorem dL_law_697 : decode cL_law 697 = .ok (.aload_n 2, 1) := by decide +kernel
theorem dL_law_698 : decode cL_law 698 = .ok (.invokevirtual 109, 3) := by decide +kernel
theorem dL_law_701 : decode cL_law 701 = .ok (.iload 5, 2) := by decide +kernel
theorem dL_law_703 : decode cL_law 703 = .ok (.if_icmp .eq 5, 3) := by decide +kernel
theorem dL_law_706 : decode cL_law 706 = .ok (.iconst 0, 1) := by decide +kernel
theorem dL_law_707 : decode cL_law 707 = .ok (.ireturn, 1) := by decide +kernel
theorem dL_law_708 : decode cL_law 708 = .ok (.iload 5, 2) := by decide +kernel
theorem dL_law_710 : decode cL_law 710 = .ok (.ifCond .ne 15, 3) := by decide +kernel
theorem dL_law_713 : decode cL_law 713 = .ok (.aload_n 3, 1) := by decide +kernel
theorem dL_law_714 : decode cL_law 714 = .ok (.iconst 0, 1) := by decide +kernel
theorem dL_law_715 : decode cL_law 715 = .ok (.laload, 1) := by decide +kernel
theorem dL_law_716 : decode cL_law 716 = .ok (.iload 6, 2) := by decide +kernel
theorem dL_law_718 : decode cL_law 718 = .ok (.i2l, 1) := by decide +kernel
theorem dL_law_719 : decode cL_law 719 = .ok (.lcmp, 1) := by decide +kernel
theorem dL_law_720 : decode cL_law 720 = .ok (.ifCond .eq 5, 3) := by decide +kernel
theorem dL_law_723 : decode cL_law 723 = .ok (.iconst 0, 1) := by decide +kernel
theorem dL_law_724 : decode cL_law 724 = .ok (.ireturn, 1) := by decide +kernel
theorem dL_law_725 : decode cL_law 725 = .ok (.goto 1225, 3) := by decide +kernel
theorem dL_law_728 : decode cL_law 728 = .ok (.aload_n 1, 1) := by decide +kernel
theorem dL_law_729 : decode cL_law 729 = .ok (.invokevirtual 137, 3) := by decide +kernel
theorem dL_law_732 : decode cL_law 732 = .ok (.aload_n 2, 1) := by decide +kernel
theorem dL_law_733 : decode cL_law 733 = .ok (.invokevirtual 140, 3) := by decide +kernel
theorem dL_law_736 : decode cL_law 736 = .ok (.if_icmp .eq 1214, 3) := by decide +kernel
theorem dL_law_739 : decode cL_law 739 = .ok (.iconst 0, 1) := by decide +kernel
theorem dL_law_740 : decode cL_law 740 = .ok (.ireturn, 1) := by decide +kernel
theorem dL_law_741 : decode cL_law 741 = .ok (.aload_n 1, 1) := by decide +kernel
theorem dL_law_742 : decode cL_law 742 = .ok (.invokevirtual 141, 3) := by decide +kernel
theorem dL_law_745 : decode cL_law 745 = .ok (.aload_n 2, 1) := by decide +kernel
theorem dL_law_746 : decode cL_law 746 = .ok (.invokevirtual 144, 3) := by decide +kernel
theorem dL_law_749 : decode cL_law 749 = .ok (.if_icmp .eq 1201, 3) := by decide +kernel
theorem dL_law_752 : decode cL_law 752 = .ok (.iconst 0, 1) := by decide +kernel
theorem dL_law_753 : decode cL_law 753 = .ok (.ireturn, 1) := by decide +kernel
theorem dL_law_754 : decode cL_law 754 = .ok (.aload_n 1, 1) := by decide +kernel
theorem dL_law_755 : decode cL_law 755 = .ok (.invokevirtual 145, 3) := by decide +kernel
theorem dL_law_758 : decode cL_law 758 = .ok (.aload_n 2, 1) := by decide +kernel
theorem dL_law_759 : decode cL_law 759 = .ok (.invokevirtual 148, 3) := by decide +kernel
theorem dL_law_762 : decode cL_law 762 = .ok (.if_icmp .eq 1188, 3) := by decide +kernel
theorem dL_law_765 : decode cL_law 765 = .ok (.iconst 0, 1) := by decide +kernel
theorem dL_law_766 : decode cL_law 766 = .ok (.ireturn, 1) := by decide +kernel
theorem dL_law_767 : decode cL_law 767 = .ok (.aload_n 1, 1) := by decide +kernel
theorem dL_law_768 : decode cL_law 768 = .ok (.invokevirtual 149, 3) := by decide +kernel
theorem dL_law_771 : decode cL_law 771 = .ok (.aload_n 2, 1) := by decide +kernel
theorem dL_law_772 : decode cL_law 772 = .ok (.invokevirtual 152, 3) := by decide +kernel
theorem dL_law_775 : decode cL_law 775 = .ok (.if_icmp .eq 1175, 3) := by decide +kernel
theorem dL_law_778 : decode cL_law 778 = .ok (.iconst 0, 1) := by decide +kernel
theorem dL_law_779 : decode cL_law 779 = .ok (.ireturn, 1) := by decide +kernel
theorem dL_law_780 : decode cL_law 780 = .ok (.aload_n 1, 1) := by decide +kernel
theorem dL_law_781 : decode cL_law 781 = .ok (.invokevirtual 153, 3) := by decide +kernel
theorem dL_law_784 : decode cL_law 784 = .ok (.aload_n 2, 1) := by decide +kernel
theorem dL_law_785 : decode cL_law 785 = .ok (.invokevirtual 156, 3) := by decide +kernel
theorem dL_law_788 : decode cL_law 788 = .ok (.if_icmp .eq 1162, 3) := by decide +kernel
theorem dL_law_791 : decode cL_law 791 = .ok (.iconst 0, 1) := by decide +kernel
theorem dL_law_792 : decode cL_law 792 = .ok (.ireturn, 1) := by decide +kernel
theorem dL_law_793 : decode cL_law 793 = .ok (.aload_n 1, 1) := by decide +kernel
theorem dL_law_794 : decode cL_law 794 = .ok (.aload_n 0, 1) := by decide +kernel
theorem dL_law_795 : decode cL_law 795 = .ok (.iload 4, 2) := by decide +kernel
theorem dL_law_797 : decode cL_law 797 = .ok (.iconst 1, 1) := by decide +kernel
theorem dL_law_798 : decode cL_law 798 = .ok (.iadd, 1) := by decide +kernel
theorem dL_law_799 : decode cL_law 799 = .ok (.iaload, 1) := by decide +kernel
theorem dL_law_800 : decode cL_law 800 = .ok (.aload_n 3, 1) := by decide +kernel
theorem dL_law_801 : decode cL_law 801 = .ok (.invokestatic 157, 3) := by decide +kernel
theorem dL_law_804 : decode cL_law 804 = .ok (.istore 5, 2) := by decide +kernel
theorem dL_law_806 : decode cL_law 806 = .ok (.aload_n 2, 1) := by decide +kernel
theorem dL_law_807 : decode cL_law 807 = .ok (.aload_n 0, 1) := by decide +kernel
theorem dL_law_808 : decode cL_law 808 = .ok (.iload 4, 2) := by decide +kernel
theorem dL_law_810 : decode cL_law 810 = .ok (.iconst 1, 1) := by decide +kernel
theorem dL_law_811 : decode cL_law 811 = .ok (.iadd, 1) := by decide +kernel
theorem dL_law_812 : decode cL_law 812 = .ok (.iaload, 1) := by decide +kernel
theorem dL_law_813 : decode cL_law 813 = .ok (.invokevirtual 159, 3) := by decide +kernel
theorem dL_law_816 : decode cL_law 816 = .ok (.istore 6, 2) := by decide +kernel
theorem dL_law_818 : decode cL_law 818 = .ok (.aload_n 2, 1) := by decide +kernel
theorem dL_law_819 : decode cL_law 819 = .ok (.invokevirtual 109, 3) := by decide +kernel
theorem dL_law_822 : decode cL_law 822 = .ok (.iload 5, 2) := by decide +kernel
theorem dL_law_824 : decode cL_law 824 = .ok (.if_icmp .eq 5, 3) := by decide +kernel
theorem dL_law_827 : decode cL_law 827 = .ok (.iconst 0, 1) := by decide +kernel
theorem dL_law_828 : decode cL_law 828 = .ok (.ireturn, 1) := by decide +kernel
theorem dL_law_829 : decode cL_law 829 = .ok (.iload 5, 2) := by decide +kernel
theorem dL_law_831 : decode cL_law 831 = .ok (.ifCond .ne 22, 3) := by decide +kernel
theorem dL_law_834 : decode cL_law 834 = .ok (.aload_n 3, 1) := by decide +kernel
theorem dL_law_835 : decode cL_law 835 = .ok (.iconst 0, 1) := by decide +kernel
theorem dL_law_836 : decode cL_law 836 = .ok (.laload, 1) := by decide +kernel
theorem dL_law_837 : decode cL_law 837 = .ok (.iload 6, 2) := by decide +kernel
theorem dL_law_839 : decode cL_law 839 = .ok (.ifCond .eq 7, 3) := by decide +kernel
theorem dL_law_842 : decode cL_law 842 = .ok (.lconst 1, 1) := by decide +kernel
theorem dL_law_843 : decode cL_law 843 = .ok (.goto 4, 3) := by decide +kernel
theorem dL_law_846 : decode cL_law 846 = .ok (.lconst 0, 1) := by decide +kernel
theorem dL_law_847 : decode cL_law 847 = .ok (.lcmp, 1) := by decide +kernel
theorem dL_law_848 : decode cL_law 848 = .ok (.ifCond .eq 5, 3) := by decide +kernel
theorem dL_law_851 : decode cL_law 851 = .ok (.iconst 0, 1) := by decide +kernel
theorem dL_law_852 : decode cL_law 852 = .ok (.ireturn, 1) := by decide +kernel
theorem dL_law_853 : decode cL_law 853 = .ok (.goto 1097, 3) := by decide +kernel
theorem dL_law_856 : decode cL_law 856 = .ok (.aload_n 1, 1) := by decide +kernel
theorem dL_law_857 : decode cL_law 857 = .ok (.aload_n 0, 1) := by decide +kernel
theorem dL_law_858 : decode cL_law 858 = .ok (.iload 4, 2) := by decide +kernel
theorem dL_law_860 : decode cL_law 860 = .ok (.iconst 1, 1) := by decide +kernel
theorem dL_law_861 : decode cL_law 861 = .ok (.iadd, 1) := by decide +kernel
theorem dL_law_862 : decode cL_law 862 = .ok (.iaload, 1) := by decide +kernel
theorem dL_law_863 : decode cL_law 863 = .ok (.aload_n 3, 1) := by decide +kernel
theorem dL_law_864 : decode cL_law 864 = .ok (.invokestatic 160, 3) := by decide +kernel
theorem dL_law_867 : decode cL_law 867 = .ok (.istore 5, 2) := by decide +kernel
theorem dL_law_869 : decode cL_law 869 = .ok (.aload_n 2, 1) := by decide +kernel
theorem dL_law_870 : decode cL_law 870 = .ok (.aload_n 0, 1) := by decide +kernel
theorem dL_law_871 : decode cL_law 871 = .ok (.iload 4, 2) := by decide +kernel
theorem dL_law_873 : decode cL_law 873 = .ok (.iconst 1, 1) := by decide +kernel
theorem dL_law_874 : decode cL_law 874 = .ok (.iadd, 1) := by decide +kernel
theorem dL_law_875 : decode cL_law 875 = .ok (.iaload, 1) := by decide +kernel
theorem dL_law_876 : decode cL_law 876 = .ok (.invokevirtual 162, 3) := by decide +kernel
theorem dL_law_879 : decode cL_law 879 = .ok (.istore 6, 2) := by decide +kernel
theorem dL_law_881 : decode cL_law 881 = .ok (.aload_n 2, 1) := by decide +kernel
theorem dL_law_882 : decode cL_law 882 = .ok (.invokevirtual 109, 3) := by decide +kernel
theorem dL_law_885 : decode cL_law 885 = .ok (.iload 5, 2) := by decide +kernel
theorem dL_law_887 : decode cL_law 887 = .ok (.if_icmp .eq 5, 3) := by decide +kernel
theorem dL_law_890 : decode cL_law 890 = .ok (.iconst 0, 1) := by decide +kernel
theorem dL_law_891 : decode cL_law 891 = .ok (.ireturn, 1) := by decide +kernel
theorem dL_law_892 : decode cL_law 892 = .ok (.iload 5, 2) := by decide +kernel
theorem dL_law_894 : decode cL_law 894 = .ok (.ifCond .ne 22, 3) := by decide +kernel
theorem dL_law_897 : decode cL_law 897 = .ok (.aload_n 3, 1) := by decide +kernel
theorem dL_law_898 : decode cL_law 898 = .ok (.iconst 0, 1) := by decide +kernel
theorem dL_law_899 : decode cL_law 899 = .ok (.laload, 1) := by decide +kernel
theorem dL_law_900 : decode cL_law 900 = .ok (.iload 6, 2) := by decide +kernel
theorem dL_law_902 : decode cL_law 902 = .ok (.ifCond .eq 7, 3) := by decide +kernel
theorem dL_law_905 : decode cL_law 905 = .ok (.lconst 1, 1) := by decide +kernel
theorem dL_law_906 : decode cL_law 906 = .ok (.goto 4, 3) := by decide +kernel
theorem dL_law_909 : decode cL_law 909 = .ok (.lconst 0, 1) := by decide +kernel
theorem dL_law_910 : decode cL_law 910 = .ok (.lcmp, 1) := by decide +kernel
theorem dL_law_911 : decode cL_law 911 = .ok (.ifCond .eq 5, 3) := by decide +kernel
theorem dL_law_914 : decode cL_law 914 = .ok (.iconst 0, 1) := by decide +kernel
theorem dL_law_915 : decode cL_law 915 = .ok (.ireturn, 1) := by decide +kernel
theorem dL_law_916 : decode cL_law 916 = .ok (.goto 1034, 3) := by decide +kernel
theorem dL_law_919 : decode cL_law 919 = .ok (.aload_n 1, 1) := by decide +kernel
theorem dL_law_920 : decode cL_law 920 = .ok (.aload_n 0, 1) := by decide +kernel
theorem dL_law_921 : decode cL_law 921 = .ok (.iload 4, 2) := by decide +kernel
theorem dL_law_923 : decode cL_law 923 = .ok (.iconst 1, 1) := by decide +kernel
theorem dL_law_924 : decode cL_law 924 = .ok (.iadd, 1) := by decide +kernel
theorem dL_law_925 : decode cL_law 925 = .ok (.iaload, 1) := by decide +kernel
theorem dL_law_926 : decode cL_law 926 = .ok (.aload_n 3, 1) := by decide +kernel
theorem dL_law_927 : decode cL_law 927 = .ok (.invokestatic 163, 3) := by decide +kernel
theorem dL_law_930 : decode cL_law 930 = .ok (.istore 5, 2) := by decide +kernel
theorem dL_law_932 : decode cL_law 932 = .ok (.aload_n 2, 1) := by decide +kernel
theorem dL_law_933 : decode cL_law 933 = .ok (.aload_n 0, 1) := by decide +kernel
theorem dL_law_934 : decode cL_law 934 = .ok (.iload 4, 2) := by decide +kernel
theorem dL_law_936 : decode cL_law 936 = .ok (.iconst 1, 1) := by decide +kernel
theorem dL_law_937 : decode cL_law 937 = .ok (.iadd, 1) := by decide +kernel
theorem dL_law_938 : decode cL_law 938 = .ok (.iaload, 1) := by decide +kernel
theorem dL_law_939 : decode cL_law 939 = .ok (.invokevirtual 165, 3) := by decide +kernel
theorem dL_law_942 : decode cL_law 942 = .ok (.istore 6, 2) := by decide +kernel
theorem dL_law_944 : decode cL_law 944 = .ok (.aload_n 2, 1) := by decide +kernel
theorem dL_law_945 : decode cL_law 945 = .ok (.invokevirtual 109, 3) := by decide +kernel
theorem dL_law_948 : decode cL_law 948 = .ok (.iload 5, 2) := by decide +kernel
theorem dL_law_950 : decode cL_law 950 = .ok (.if_icmp .eq 5, 3) := by decide +kernel
theorem dL_law_953 : decode cL_law 953 = .ok (.iconst 0, 1) := by decide +kernel
theorem dL_law_954 : decode cL_law 954 = .ok (.ireturn, 1) := by decide +kernel
theorem dL_law_955 : decode cL_law 955 = .ok (.iload 5, 2) := by decide +kernel
theorem dL_law_957 : decode cL_law 957 = .ok (.ifCond .ne 15, 3) := by decide +kernel
theorem dL_law_960 : decode cL_law 960 = .ok (.aload_n 3, 1) := by decide +kernel
theorem dL_law_961 : decode cL_law 961 = .ok (.iconst 0, 1) := by decide +kernel
theorem dL_law_962 : decode cL_law 962 = .ok (.laload, 1) := by decide +kernel
theorem dL_law_963 : decode cL_law 963 = .ok (.iload 6, 2) := by decide +kernel
theorem dL_law_965 : decode cL_law 965 = .ok (.i2l, 1) := by decide +kernel
theorem dL_law_966 : decode cL_law 966 = .ok (.lcmp, 1) := by decide +kernel
theorem dL_law_967 : decode cL_law 967 = .ok (.ifCond .eq 5, 3) := by decide +kernel
theorem dL_law_970 : decode cL_law 970 = .ok (.iconst 0, 1) := by decide +kernel
theorem dL_law_971 : decode cL_law 971 = .ok (.ireturn, 1) := by decide +kernel
theorem dL_law_972 : decode cL_law 972 = .ok (.goto 978, 3) := by decide +kernel
theorem dL_law_975 : decode cL_law 975 = .ok (.aload_n 1, 1) := by decide +kernel
theorem dL_law_976 : decode cL_law 976 = .ok (.aload_n 0, 1) := by decide +kernel
theorem dL_law_977 : decode cL_law 977 = .ok (.iload 4, 2) := by decide +kernel
theorem dL_law_979 : decode cL_law 979 = .ok (.iconst 1, 1) := by decide +kernel
theorem dL_law_980 : decode cL_law 980 = .ok (.iadd, 1) := by decide +kernel
theorem dL_law_981 : decode cL_law 981 = .ok (.iaload, 1) := by decide +kernel
theorem dL_law_982 : decode cL_law 982 = .ok (.aload_n 3, 1) := by decide +kernel
theorem dL_law_983 : decode cL_law 983 = .ok (.invokestatic 166, 3) := by decide +kernel
theorem dL_law_986 : decode cL_law 986 = .ok (.istore 5, 2) := by decide +kernel
theorem dL_law_988 : decode cL_law 988 = .ok (.aload_n 2, 1) := by decide +kernel
theorem dL_law_989 : decode cL_law 989 = .ok (.aload_n 0, 1) := by decide +kernel
theorem dL_law_990 : decode cL_law 990 = .ok (.iload 4, 2) := by decide +kernel
theorem dL_law_992 : decode cL_law 992 = .ok (.iconst 1, 1) := by decide +kernel
theorem dL_law_993 : decode cL_law 993 = .ok (.iadd, 1) := by decide +kernel
theorem dL_law_994 : decode cL_law 994 = .ok (.iaload, 1) := by decide +kernel
theorem dL_law_995 : decode cL_law 995 = .ok (.invokevirtual 168, 3) := by decide +kernel
theorem dL_law_998 : decode cL_law 998 = .ok (.istore 6, 2) := by decide +kernel
theorem dL_law_1000 : decode cL_law 1000 = .ok (.aload_n 2, 1) := by decide +kernel
theorem dL_law_1001 : decode cL_law 1001 = .ok (.invokevirtual 109, 3) := by decide +kernel
theorem dL_law_1004 : decode cL_law 1004 = .ok (.iload 5, 2) := by decide +kernel
theorem dL_law_1006 : decode cL_law 1006 = .ok (.if_icmp .eq 5, 3) := by decide +kernel
theorem dL_law_1009 : decode cL_law 1009 = .ok (.iconst 0, 1) := by decide +kernel
theorem dL_law_1010 : decode cL_law 1010 = .ok (.ireturn, 1) := by decide +kernel
theorem dL_law_1011 : decode cL_law 1011 = .ok (.iload 5, 2) := by decide +kernel
theorem dL_law_1013 : decode cL_law 1013 = .ok (.ifCond .ne 15, 3) := by decide +kernel
theorem dL_law_1016 : decode cL_law 1016 = .ok (.aload_n 3, 1) := by decide +kernel
theorem dL_law_1017 : decode cL_law 1017 = .ok (.iconst 0, 1) := by decide +kernel
theorem dL_law_1018 : decode cL_law 1018 = .ok (.laload, 1) := by decide +kernel
theorem dL_law_1019 : decode cL_law 1019 = .ok (.iload 6, 2) := by decide +kernel
theorem dL_law_1021 : decode cL_law 1021 = .ok (.i2l, 1) := by decide +kernel
theorem dL_law_1022 : decode cL_law 1022 = .ok (.lcmp, 1) := by decide +kernel
theorem dL_law_1023 : decode cL_law 1023 = .ok (.ifCond .eq 5, 3) := by decide +kernel
theorem dL_law_1026 : decode cL_law 1026 = .ok (.iconst 0, 1) := by decide +kernel
theorem dL_law_1027 : decode cL_law 1027 = .ok (.ireturn, 1) := by decide +kernel
theorem dL_law_1028 : decode cL_law 1028 = .ok (.goto 922, 3) := by decide +kernel
theorem dL_law_1031 : decode cL_law 1031 = .ok (.aload_n 1, 1) := by decide +kernel
theorem dL_law_1032 : decode cL_law 1032 = .ok (.aload_n 0, 1) := by decide +kernel
theorem dL_law_1033 : decode cL_law 1033 = .ok (.iload 4, 2) := by decide +kernel
theorem dL_law_1035 : decode cL_law 1035 = .ok (.iconst 1, 1) := by decide +kernel
theorem dL_law_1036 : decode cL_law 1036 = .ok (.iadd, 1) := by decide +kernel
theorem dL_law_1037 : decode cL_law 1037 = .ok (.iaload, 1) := by decide +kernel
theorem dL_law_1038 : decode cL_law 1038 = .ok (.aload_n 3, 1) := by decide +kernel
theorem dL_law_1039 : decode cL_law 1039 = .ok (.invokestatic 169, 3) := by decide +kernel
theorem dL_law_1042 : decode cL_law 1042 = .ok (.istore 5, 2) := by decide +kernel
theorem dL_law_1044 : decode cL_law 1044 = .ok (.aload_n 2, 1) := by decide +kernel
theorem dL_law_1045 : decode cL_law 1045 = .ok (.aload_n 0, 1) := by decide +kernel
theorem dL_law_1046 : decode cL_law 1046 = .ok (.iload 4, 2) := by decide +kernel
theorem dL_law_1048 : decode cL_law 1048 = .ok (.iconst 1, 1) := by decide +kernel
theorem dL_law_1049 : decode cL_law 1049 = .ok (.iadd, 1) := by decide +kernel
theorem dL_law_1050 : decode cL_law 1050 = .ok (.iaload, 1) := by decide +kernel
theorem dL_law_1051 : decode cL_law 1051 = .ok (.invokevirtual 171, 3) := by decide +kernel
theorem dL_law_1054 : decode cL_law 1054 = .ok (.istore 6, 2) := by decide +kernel
theorem dL_law_1056 : decode cL_law 1056 = .ok (.aload_n 2, 1) := by decide +kernel
theorem dL_law_1057 : decode cL_law 1057 = .ok (.invokevirtual 109, 3) := by decide +kernel
theorem dL_law_1060 : decode cL_law 1060 = .ok (.iload 5, 2) := by decide +kernel
theorem dL_law_1062 : decode cL_law 1062 = .ok (.if_icmp .eq 5, 3) := by decide +kernel
theorem dL_law_1065 : decode cL_law 1065 = .ok (.iconst 0, 1) := by decide +kernel
theorem dL_law_1066 : decode cL_law 1066 = .ok (.ireturn, 1) := by decide +kernel
theorem dL_law_1067 : decode cL_law 1067 = .ok (.iload 5, 2) := by decide +kernel
theorem dL_law_1069 : decode cL_law 1069 = .ok (.ifCond .ne 15, 3) := by decide +kernel
theorem dL_law_1072 : decode cL_law 1072 = .ok (.aload_n 3, 1) := by decide +kernel
theorem dL_law_1073 : decode cL_law 1073 = .ok (.iconst 0, 1) := by decide +kernel
theorem dL_law_1074 : decode cL_law 1074 = .ok (.laload, 1) := by decide +kernel
theorem dL_law_1075 : decode cL_law 1075 = .ok (.iload 6, 2) := by decide +kernel
theorem dL_law_1077 : decode cL_law 1077 = .ok (.i2l, 1) := by decide +kernel
theorem dL_law_1078 : decode cL_law 1078 = .ok (.lcmp, 1) := by decide +kernel
theorem dL_law_1079 : decode cL_law 1079 = .ok (.ifCond .eq 5, 3) := by decide +kernel
theorem dL_law_1082 : decode cL_law 1082 = .ok (.iconst 0, 1) := by decide +kernel
theorem dL_law_1083 : decode cL_law 1083 = .ok (.ireturn, 1) := by decide +kernel
theorem dL_law_1084 : decode cL_law 1084 = .ok (.goto 866, 3) := by decide +kernel
theorem dL_law_1087 : decode cL_law 1087 = .ok (.aload_n 1, 1) := by decide +kernel
theorem dL_law_1088 : decode cL_law 1088 = .ok (.aload_n 0, 1) := by decide +kernel
theorem dL_law_1089 : decode cL_law 1089 = .ok (.iload 4, 2) := by decide +kernel
theorem dL_law_1091 : decode cL_law 1091 = .ok (.iconst 1, 1) := by decide +kernel
theorem dL_law_1092 : decode cL_law 1092 = .ok (.iadd, 1) := by decide +kernel
theorem dL_law_1093 : decode cL_law 1093 = .ok (.iaload, 1) := by decide +kernel
theorem dL_law_1094 : decode cL_law 1094 = .ok (.aload_n 3, 1) := by decide +kernel
theorem dL_law_1095 : decode cL_law 1095 = .ok (.invokestatic 172, 3) := by decide +kernel
theorem dL_law_1098 : decode cL_law 1098 = .ok (.istore 5, 2) := by decide +kernel
theorem dL_law_1100 : decode cL_law 1100 = .ok (.aload_n 2, 1) := by decide +kernel
theorem dL_law_1101 : decode cL_law 1101 = .ok (.aload_n 0, 1) := by decide +kernel
theorem dL_law_1102 : decode cL_law 1102 = .ok (.iload 4, 2) := by decide +kernel
theorem dL_law_1104 : decode cL_law 1104 = .ok (.iconst 1, 1) := by decide +kernel
theorem dL_law_1105 : decode cL_law 1105 = .ok (.iadd, 1) := by decide +kernel
theorem dL_law_1106 : decode cL_law 1106 = .ok (.iaload, 1) := by decide +kernel
theorem dL_law_1107 : decode cL_law 1107 = .ok (.invokevirtual 174, 3) := by decide +kernel
theorem dL_law_1110 : decode cL_law 1110 = .ok (.istore 6, 2) := by decide +kernel
theorem dL_law_1112 : decode cL_law 1112 = .ok (.aload_n 2, 1) := by decide +kernel
theorem dL_law_1113 : decode cL_law 1113 = .ok (.invokevirtual 109, 3) := by decide +kernel
theorem dL_law_1116 : decode cL_law 1116 = .ok (.iload 5, 2) := by decide +kernel
theorem dL_law_1118 : decode cL_law 1118 = .ok (.if_icmp .eq 5, 3) := by decide +kernel
theorem dL_law_1121 : decode cL_law 1121 = .ok (.iconst 0, 1) := by decide +kernel
theorem dL_law_1122 : decode cL_law 1122 = .ok (.ireturn, 1) := by decide +kernel
theorem dL_law_1123 : decode cL_law 1123 = .ok (.iload 5, 2) := by decide +kernel
theorem dL_law_1125 : decode cL_law 1125 = .ok (.ifCond .ne 15, 3) := by decide +kernel
theorem dL_law_1128 : decode cL_law 1128 = .ok (.aload_n 3, 1) := by decide +kernel
theorem dL_law_1129 : decode cL_law 1129 = .ok (.iconst 0, 1) := by decide +kernel
theorem dL_law_1130 : decode cL_law 1130 = .ok (.laload, 1) := by decide +kernel
theorem dL_law_1131 : decode cL_law 1131 = .ok (.iload 6, 2) := by decide +kernel
theorem dL_law_1133 : decode cL_law 1133 = .ok (.i2l, 1) := by decide +kernel
theorem dL_law_1134 : decode cL_law 1134 = .ok (.lcmp, 1) := by decide +kernel
theorem dL_law_1135 : decode cL_law 1135 = .ok (.ifCond .eq 5, 3) := by decide +kernel
theorem dL_law_1138 : decode cL_law 1138 = .ok (.iconst 0, 1) := by decide +kernel
theorem dL_law_1139 : decode cL_law 1139 = .ok (.ireturn, 1) := by decide +kernel
theorem dL_law_1140 : decode cL_law 1140 = .ok (.goto 810, 3) := by decide +kernel
theorem dL_law_1143 : decode cL_law 1143 = .ok (.aload_n 1, 1) := by decide +kernel
theorem dL_law_1144 : decode cL_law 1144 = .ok (.aload_n 0, 1) := by decide +kernel
theorem dL_law_1145 : decode cL_law 1145 = .ok (.iload 4, 2) := by decide +kernel
theorem dL_law_1147 : decode cL_law 1147 = .ok (.iconst 1, 1) := by decide +kernel
theorem dL_law_1148 : decode cL_law 1148 = .ok (.iadd, 1) := by decide +kernel
theorem dL_law_1149 : decode cL_law 1149 = .ok (.iaload, 1) := by decide +kernel
theorem dL_law_1150 : decode cL_law 1150 = .ok (.aload_n 3, 1) := by decide +kernel
theorem dL_law_1151 : decode cL_law 1151 = .ok (.invokestatic 175, 3) := by decide +kernel
theorem dL_law_1154 : decode cL_law 1154 = .ok (.istore 5, 2) := by decide +kernel
theorem dL_law_1156 : decode cL_law 1156 = .ok (.aload_n 2, 1) := by decide +kernel
theorem dL_law_1157 : decode cL_law 1157 = .ok (.aload_n 0, 1) := by decide +kernel
theorem dL_law_1158 : decode cL_law 1158 = .ok (.iload 4, 2) := by decide +kernel
theorem dL_law_1160 : decode cL_law 1160 = .ok (.iconst 1, 1) := by decide +kernel
theorem dL_law_1161 : decode cL_law 1161 = .ok (.iadd, 1) := by decide +kernel
theorem dL_law_1162 : decode cL_law 1162 = .ok (.iaload, 1) := by decide +kernel
theorem dL_law_1163 : decode cL_law 1163 = .ok (.invokevirtual 177, 3) := by decide +kernel
theorem dL_law_1166 : decode cL_law 1166 = .ok (.istore 6, 2) := by decide +kernel
theorem dL_law_1168 : decode cL_law 1168 = .ok (.aload_n 2, 1) := by decide +kernel
theorem dL_law_1169 : decode cL_law 1169 = .ok (.invokevirtual 109, 3) := by decide +kernel
theorem dL_law_1172 : decode cL_law 1172 = .ok (.iload 5, 2) := by decide +kernel
theorem dL_law_1174 : decode cL_law 1174 = .ok (.if_icmp .eq 5, 3) := by decide +kernel
theorem dL_law_1177 : decode cL_law 1177 = .ok (.iconst 0, 1) := by decide +kernel
theorem dL_law_1178 : decode cL_law 1178 = .ok (.ireturn, 1) := by decide +kernel
theorem dL_law_1179 : decode cL_law 1179 = .ok (.iload 5, 2) := by decide +kernel
theorem dL_law_1181 : decode cL_law 1181 = .ok (.ifCond .ne 15, 3) := by decide +kernel
theorem dL_law_1184 : decode cL_law 1184 = .ok (.aload_n 3, 1) := by decide +kernel
theorem dL_law_1185 : decode cL_law 1185 = .ok (.iconst 0, 1) := by decide +kernel
theorem dL_law_1186 : decode cL_law 1186 = .ok (.laload, 1) := by decide +kernel
theorem dL_law_1187 : decode cL_law 1187 = .ok (.iload 6, 2) := by decide +kernel
theorem dL_law_1189 : decode cL_law 1189 = .ok (.i2l, 1) := by decide +kernel
theorem dL_law_1190 : decode cL_law 1190 = .ok (.lcmp, 1) := by decide +kernel
theorem dL_law_1191 : decode cL_law 1191 = .ok (.ifCond .eq 5, 3) := by decide +kernel
theorem dL_law_1194 : decode cL_law 1194 = .ok (.iconst 0, 1) := by decide +kernel
theorem dL_law_1195 : decode cL_law 1195 = .ok (.ireturn, 1) := by decide +kernel
theorem dL_law_1196 : decode cL_law 1196 = .ok (.goto 754, 3) := by decide +kernel
theorem dL_law_1199 : decode cL_law 1199 = .ok (.aload_n 1, 1) := by decide +kernel
theorem dL_law_1200 : decode cL_law 1200 = .ok (.aload_n 0, 1) := by decide +kernel
theorem dL_law_1201 : decode cL_law 1201 = .ok (.iload 4, 2) := by decide +kernel
theorem dL_law_1203 : decode cL_law 1203 = .ok (.iconst 1, 1) := by decide +kernel
theorem dL_law_1204 : decode cL_law 1204 = .ok (.iadd, 1) := by decide +kernel
theorem dL_law_1205 : decode cL_law 1205 = .ok (.iaload, 1) := by decide +kernel
theorem dL_law_1206 : decode cL_law 1206 = .ok (.aload_n 3, 1) := by decide +kernel
theorem dL_law_1207 : decode cL_law 1207 = .ok (.invokestatic 178, 3) := by decide +kernel
theorem dL_law_1210 : decode cL_law 1210 = .ok (.istore 5, 2) := by decide +kernel
theorem dL_law_1212 : decode cL_law 1212 = .ok (.aload_n 2, 1) := by decide +kernel
theorem dL_law_1213 : decode cL_law 1213 = .ok (.aload_n 0, 1) := by decide +kernel
theorem dL_law_1214 : decode cL_law 1214 = .ok (.iload 4, 2) := by decide +kernel
theorem dL_law_1216 : decode cL_law 1216 = .ok (.iconst 1, 1) := by decide +kernel
theorem dL_law_1217 : decode cL_law 1217 = .ok (.iadd, 1) := by decide +kernel
theorem dL_law_1218 : decode cL_law 1218 = .ok (.iaload, 1) := by decide +kernel
theorem dL_law_1219 : decode cL_law 1219 = .ok (.invokevirtual 180, 3) := by decide +kernel
theorem dL_law_1222 : decode cL_law 1222 = .ok (.istore 6, 2) := by decide +kernel
theorem dL_law_1224 : decode cL_law 1224 = .ok (.aload_n 2, 1) := by decide +kernel
theorem dL_law_1225 : decode cL_law 1225 = .ok (.invokevirtual 109, 3) := by decide +kernel
theorem dL_law_1228 : decode cL_law 1228 = .ok (.iload 5, 2) := by decide +kernel
theorem dL_law_1230 : decode cL_law 1230 = .ok (.if_icmp .eq 5, 3) := by decide +kernel
theorem dL_law_1233 : decode cL_law 1233 = .ok (.iconst 0, 1) := by decide +kernel
theorem dL_law_1234 : decode cL_law 1234 = .ok (.ireturn, 1) := by decide +kernel
theorem dL_law_1235 : decode cL_law 1235 = .ok (.iload 5, 2) := by decide +kernel
theorem dL_law_1237 : decode cL_law 1237 = .ok (.ifCond .ne 15, 3) := by decide +kernel
theorem dL_law_1240 : decode cL_law 1240 = .ok (.aload_n 3, 1) := by decide +kernel
theorem dL_law_1241 : decode cL_law 1241 = .ok (.iconst 0, 1) := by decide +kernel
theorem dL_law_1242 : decode cL_law 1242 = .ok (.laload, 1) := by decide +kernel
theorem dL_law_1243 : decode cL_law 1243 = .ok (.iload 6, 2) := by decide +kernel
theorem dL_law_1245 : decode cL_law 1245 = .ok (.i2l, 1) := by decide +kernel
theorem dL_law_1246 : decode cL_law 1246 = .ok (.lcmp, 1) := by decide +kernel
theorem dL_law_1247 : decode cL_law 1247 = .ok (.ifCond .eq 5, 3) := by decide +kernel
theorem dL_law_1250 : decode cL_law 1250 = .ok (.iconst 0, 1) := by decide +kernel
theorem dL_law_1251 : decode cL_law 1251 = .ok (.ireturn, 1) := by decide +kernel
theorem dL_law_1252 : decode cL_law 1252 = .ok (.goto 698, 3) := by decide +kernel
theorem dL_law_1255 : decode cL_law 1255 = .ok (.aload_n 1, 1) := by decide +kernel
theorem dL_law_1256 : decode cL_law 1256 = .ok (.aload_n 0, 1) := by decide +kernel
theorem dL_law_1257 : decode cL_law 1257 = .ok (.iload 4, 2) := by decide +kernel
theorem dL_law_1259 : decode cL_law 1259 = .ok (.iconst 1, 1) := by decide +kernel
theorem dL_law_1260 : decode cL_law 1260 = .ok (.iadd, 1) := by decide +kernel
theorem dL_law_1261 : decode cL_law 1261 = .ok (.iaload, 1) := by decide +kernel
theorem dL_law_1262 : decode cL_law 1262 = .ok (.aload_n 3, 1) := by decide +kernel
theorem dL_law_1263 : decode cL_law 1263 = .ok (.invokestatic 181, 3) := by decide +kernel
theorem dL_law_1266 : decode cL_law 1266 = .ok (.istore 5, 2) := by decide +kernel
theorem dL_law_1268 : decode cL_law 1268 = .ok (.aload_n 2, 1) := by decide +kernel
theorem dL_law_1269 : decode cL_law 1269 = .ok (.aload_n 0, 1) := by decide +kernel
theorem dL_law_1270 : decode cL_law 1270 = .ok (.iload 4, 2) := by decide +kernel
theorem dL_law_1272 : decode cL_law 1272 = .ok (.iconst 1, 1) := by decide +kernel
theorem dL_law_1273 : decode cL_law 1273 = .ok (.iadd, 1) := by decide +kernel
theorem dL_law_1274 : decode cL_law 1274 = .ok (.iaload, 1) := by decide +kernel
theorem dL_law_1275 : decode cL_law 1275 = .ok (.invokevirtual 183, 3) := by decide +kernel
theorem dL_law_1278 : decode cL_law 1278 = .ok (.istore 6, 2) := by decide +kernel
theorem dL_law_1280 : decode cL_law 1280 = .ok (.aload_n 2, 1) := by decide +kernel
theorem dL_law_1281 : decode cL_law 1281 = .ok (.invokevirtual 109, 3) := by decide +kernel
theorem dL_law_1284 : decode cL_law 1284 = .ok (.iload 5, 2) := by decide +kernel
theorem dL_law_1286 : decode cL_law 1286 = .ok (.if_icmp .eq 5, 3) := by decide +kernel
theorem dL_law_1289 : decode cL_law 1289 = .ok (.iconst 0, 1) := by decide +kernel
theorem dL_law_1290 : decode cL_law 1290 = .ok (.ireturn, 1) := by decide +kernel
theorem dL_law_1291 : decode cL_law 1291 = .ok (.iload 5, 2) := by decide +kernel
theorem dL_law_1293 : decode cL_law 1293 = .ok (.ifCond .ne 15, 3) := by decide +kernel
theorem dL_law_1296 : decode cL_law 1296 = .ok (.aload_n 3, 1) := by decide +kernel
theorem dL_law_1297 : decode cL_law 1297 = .ok (.iconst 0, 1) := by decide +kernel
theorem dL_law_1298 : decode cL_law 1298 = .ok (.laload, 1) := by decide +kernel
theorem dL_law_1299 : decode cL_law 1299 = .ok (.iload 6, 2) := by decide +kernel
theorem dL_law_1301 : decode cL_law 1301 = .ok (.i2l, 1) := by decide +kernel
theorem dL_law_1302 : decode cL_law 1302 = .ok (.lcmp, 1) := by decide +kernel
theorem dL_law_1303 : decode cL_law 1303 = .ok (.ifCond .eq 5, 3) := by decide +kernel
theorem dL_law_1306 : decode cL_law 1306 = .ok (.iconst 0, 1) := by decide +kernel
theorem dL_law_1307 : decode cL_law 1307 = .ok (.ireturn, 1) := by decide +kernel
theorem dL_law_1308 : decode cL_law 1308 = .ok (.goto 642, 3) := by decide +kernel
theorem dL_law_1311 : decode cL_law 1311 = .ok (.aload_n 1, 1) := by decide +kernel
theorem dL_law_1312 : decode cL_law 1312 = .ok (.aload_n 0, 1) := by decide +kernel
theorem dL_law_1313 : decode cL_law 1313 = .ok (.iload 4, 2) := by decide +kernel
theorem dL_law_1315 : decode cL_law 1315 = .ok (.iconst 1, 1) := by decide +kernel
theorem dL_law_1316 : decode cL_law 1316 = .ok (.iadd, 1) := by decide +kernel
theorem dL_law_1317 : decode cL_law 1317 = .ok (.iaload, 1) := by decide +kernel
theorem dL_law_1318 : decode cL_law 1318 = .ok (.aload_n 3, 1) := by decide +kernel
theorem dL_law_1319 : decode cL_law 1319 = .ok (.invokestatic 184, 3) := by decide +kernel
theorem dL_law_1322 : decode cL_law 1322 = .ok (.istore 5, 2) := by decide +kernel
theorem dL_law_1324 : decode cL_law 1324 = .ok (.aload_n 2, 1) := by decide +kernel
theorem dL_law_1325 : decode cL_law 1325 = .ok (.aload_n 0, 1) := by decide +kernel
theorem dL_law_1326 : decode cL_law 1326 = .ok (.iload 4, 2) := by decide +kernel
theorem dL_law_1328 : decode cL_law 1328 = .ok (.iconst 1, 1) := by decide +kernel
theorem dL_law_1329 : decode cL_law 1329 = .ok (.iadd, 1) := by decide +kernel
theorem dL_law_1330 : decode cL_law 1330 = .ok (.iaload, 1) := by decide +kernel
theorem dL_law_1331 : decode cL_law 1331 = .ok (.invokevirtual 186, 3) := by decide +kernel
theorem dL_law_1334 : decode cL_law 1334 = .ok (.istore 6, 2) := by decide +kernel
theorem dL_law_1336 : decode cL_law 1336 = .ok (.aload_n 2, 1) := by decide +kernel
theorem dL_law_1337 : decode cL_law 1337 = .ok (.invokevirtual 109, 3) := by decide +kernel
theorem dL_law_1340 : decode cL_law 1340 = .ok (.iload 5, 2) := by decide +kernel
theorem dL_law_1342 : decode cL_law 1342 = .ok (.if_icmp .eq 5, 3) := by decide +kernel
theorem dL_law_1345 : decode cL_law 1345 = .ok (.iconst 0, 1) := by decide +kernel
theorem dL_law_1346 : decode cL_law 1346 = .ok (.ireturn, 1) := by decide +kernel
theorem dL_law_1347 : decode cL_law 1347 = .ok (.iload 5, 2) := by decide +kernel
theorem dL_law_1349 : decode cL_law 1349 = .ok (.ifCond .ne 15, 3) := by decide +kernel
theorem dL_law_1352 : decode cL_law 1352 = .ok (.aload_n 3, 1) := by decide +kernel
theorem dL_law_1353 : decode cL_law 1353 = .ok (.iconst 0, 1) := by decide +kernel
theorem dL_law_1354 : decode cL_law 1354 = .ok (.laload, 1) := by decide +kernel
theorem dL_law_1355 : decode cL_law 1355 = .ok (.iload 6, 2) := by decide +kernel
theorem dL_law_1357 : decode cL_law 1357 = .ok (.i2l, 1) := by decide +kernel
theorem dL_law_1358 : decode cL_law 1358 = .ok (.lcmp, 1) := by decide +kernel
theorem dL_law_1359 : decode cL_law 1359 = .ok (.ifCond .eq 5, 3) := by decide +kernel
theorem dL_law_1362 : decode cL_law 1362 = .ok (.iconst 0, 1) := by decide +kernel
theorem dL_law_1363 : decode cL_law 1363 = .ok (.ireturn, 1) := by decide +kernel
theorem dL_law_1364 : decode cL_law 1364 = .ok (.goto 586, 3) := by decide +kernel
theorem dL_law_1367 : decode cL_law 1367 = .ok (.aload_n 1, 1) := by decide +kernel
theorem dL_law_1368 : decode cL_law 1368 = .ok (.aload_n 0, 1) := by decide +kernel
theorem dL_law_1369 : decode cL_law 1369 = .ok (.iload 4, 2) := by decide +kernel
theorem dL_law_1371 : decode cL_law 1371 = .ok (.iconst 1, 1) := by decide +kernel
theorem dL_law_1372 : decode cL_law 1372 = .ok (.iadd, 1) := by decide +kernel
theorem dL_law_1373 : decode cL_law 1373 = .ok (.iaload, 1) := by decide +kernel
theorem dL_law_1374 : decode cL_law 1374 = .ok (.aload_n 0, 1) := by decide +kernel
theorem dL_law_1375 : decode cL_law 1375 = .ok (.iload 4, 2) := by decide +kernel
theorem dL_law_1377 : decode cL_law 1377 = .ok (.iconst 2, 1) := by decide +kernel
theorem dL_law_1378 : decode cL_law 1378 = .ok (.iadd, 1) := by decide +kernel
theorem dL_law_1379 : decode cL_law 1379 = .ok (.iaload, 1) := by decide +kernel
theorem dL_law_1380 : decode cL_law 1380 = .ok (.aload_n 3, 1) := by decide +kernel
theorem dL_law_1381 : decode cL_law 1381 = .ok (.invokestatic 187, 3) := by decide +kernel
theorem dL_law_1384 : decode cL_law 1384 = .ok (.istore 5, 2) := by decide +kernel
theorem dL_law_1386 : decode cL_law 1386 = .ok (.aload_n 2, 1) := by decide +kernel
theorem dL_law_1387 : decode cL_law 1387 = .ok (.aload_n 0, 1) := by decide +kernel
theorem dL_law_1388 : decode cL_law 1388 = .ok (.iload 4, 2) := by decide +kernel
theorem dL_law_1390 : decode cL_law 1390 = .ok (.iconst 1, 1) := by decide +kernel
theorem dL_law_1391 : decode cL_law 1391 = .ok (.iadd, 1) := by decide +kernel
theorem dL_law_1392 : decode cL_law 1392 = .ok (.iaload, 1) := by decide +kernel
theorem dL_law_1393 : decode cL_law 1393 = .ok (.aload_n 0, 1) := by decide +kernel
theorem dL_law_1394 : decode cL_law 1394 = .ok (.iload 4, 2) := by decide +kernel
theorem dL_law_1396 : decode cL_law 1396 = .ok (.iconst 2, 1) := by decide +kernel
theorem dL_law_1397 : decode cL_law 1397 = .ok (.iadd, 1) := by decide +kernel
theorem dL_law_1398 : decode cL_law 1398 = .ok (.iaload, 1) := by decide +kernel
theorem dL_law_1399 : decode cL_law 1399 = .ok (.invokevirtual 189, 3) := by decide +kernel
theorem dL_law_1402 : decode cL_law 1402 = .ok (.istore 6, 2) := by decide +kernel
theorem dL_law_1404 : decode cL_law 1404 = .ok (.aload_n 2, 1) := by decide +kernel
theorem dL_law_1405 : decode cL_law 1405 = .ok (.invokevirtual 109, 3) := by decide +kernel
theorem dL_law_1408 : decode cL_law 1408 = .ok (.iload 5, 2) := by decide +kernel
theorem dL_law_1410 : decode cL_law 1410 = .ok (.if_icmp .eq 5, 3) := by decide +kernel
theorem dL_law_1413 : decode cL_law 1413 = .ok (.iconst 0, 1) := by decide +kernel
theorem dL_law_1414 : decode cL_law 1414 = .ok (.ireturn, 1) := by decide +kernel
theorem dL_law_1415 : decode cL_law 1415 = .ok (.iload 5, 2) := by decide +kernel
theorem dL_law_1417 : decode cL_law 1417 = .ok (.ifCond .ne 22, 3) := by decide +kernel
theorem dL_law_1420 : decode cL_law 1420 = .ok (.aload_n 3, 1) := by decide +kernel
theorem dL_law_1421 : decode cL_law 1421 = .ok (.iconst 0, 1) := by decide +kernel
theorem dL_law_1422 : decode cL_law 1422 = .ok (.laload, 1) := by decide +kernel
theorem dL_law_1423 : decode cL_law 1423 = .ok (.iload 6, 2) := by decide +kernel
theorem dL_law_1425 : decode cL_law 1425 = .ok (.ifCond .eq 7, 3) := by decide +kernel
theorem dL_law_1428 : decode cL_law 1428 = .ok (.lconst 1, 1) := by decide +kernel
theorem dL_law_1429 : decode cL_law 1429 = .ok (.goto 4, 3) := by decide +kernel
theorem dL_law_1432 : decode cL_law 1432 = .ok (.lconst 0, 1) := by decide +kernel
theorem dL_law_1433 : decode cL_law 1433 = .ok (.lcmp, 1) := by decide +kernel
theorem dL_law_1434 : decode cL_law 1434 = .ok (.ifCond .eq 5, 3) := by decide +kernel
theorem dL_law_1437 : decode cL_law 1437 = .ok (.iconst 0, 1) := by decide +kernel
theorem dL_law_1438 : decode cL_law 1438 = .ok (.ireturn, 1) := by decide +kernel
theorem dL_law_1439 : decode cL_law 1439 = .ok (.goto 511, 3) := by decide +kernel
theorem dL_law_1442 : decode cL_law 1442 = .ok (.aload_n 1, 1) := by decide +kernel
theorem dL_law_1443 : decode cL_law 1443 = .ok (.aload_n 0, 1) := by decide +kernel
theorem dL_law_1444 : decode cL_law 1444 = .ok (.iload 4, 2) := by decide +kernel
theorem dL_law_1446 : decode cL_law 1446 = .ok (.iconst 1, 1) := by decide +kernel
theorem dL_law_1447 : decode cL_law 1447 = .ok (.iadd, 1) := by decide +kernel
theorem dL_law_1448 : decode cL_law 1448 = .ok (.iaload, 1) := by decide +kernel
theorem dL_law_1449 : decode cL_law 1449 = .ok (.aload_n 3, 1) := by decide +kernel
theorem dL_law_1450 : decode cL_law 1450 = .ok (.invokestatic 190, 3) := by decide +kernel
theorem dL_law_1453 : decode cL_law 1453 = .ok (.istore 5, 2) := by decide +kernel
theorem dL_law_1455 : decode cL_law 1455 = .ok (.aload_n 2, 1) := by decide +kernel
theorem dL_law_1456 : decode cL_law 1456 = .ok (.aload_n 0, 1) := by decide +kernel
theorem dL_law_1457 : decode cL_law 1457 = .ok (.iload 4, 2) := by decide +kernel
theorem dL_law_1459 : decode cL_law 1459 = .ok (.iconst 1, 1) := by decide +kernel
theorem dL_law_1460 : decode cL_law 1460 = .ok (.iadd, 1) := by decide +kernel
theorem dL_law_1461 : decode cL_law 1461 = .ok (.iaload, 1) := by decide +kernel
theorem dL_law_1462 : decode cL_law 1462 = .ok (.invokevirtual 192, 3) := by decide +kernel
theorem dL_law_1465 : decode cL_law 1465 = .ok (.istore 6, 2) := by decide +kernel
theorem dL_law_1467 : decode cL_law 1467 = .ok (.aload_n 2, 1) := by decide +kernel
theorem dL_law_1468 : decode cL_law 1468 = .ok (.invokevirtual 109, 3) := by decide +kernel
theorem dL_law_1471 : decode cL_law 1471 = .ok (.iload 5, 2) := by decide +kernel
theorem dL_law_1473 : decode cL_law 1473 = .ok (.if_icmp .eq 5, 3) := by decide +kernel
theorem dL_law_1476 : decode cL_law 1476 = .ok (.iconst 0, 1) := by decide +kernel
theorem dL_law_1477 : decode cL_law 1477 = .ok (.ireturn, 1) := by decide +kernel
theorem dL_law_1478 : decode cL_law 1478 = .ok (.iload 5, 2) := by decide +kernel
theorem dL_law_1480 : decode cL_law 1480 = .ok (.ifCond .ne 15, 3) := by decide +kernel
theorem dL_law_1483 : decode cL_law 1483 = .ok (.aload_n 3, 1) := by decide +kernel
theorem dL_law_1484 : decode cL_law 1484 = .ok (.iconst 0, 1) := by decide +kernel
theorem dL_law_1485 : decode cL_law 1485 = .ok (.laload, 1) := by decide +kernel
theorem dL_law_1486 : decode cL_law 1486 = .ok (.iload 6, 2) := by decide +kernel
theorem dL_law_1488 : decode cL_law 1488 = .ok (.i2l, 1) := by decide +kernel
theorem dL_law_1489 : decode cL_law 1489 = .ok (.lcmp, 1) := by decide +kernel
theorem dL_law_1490 : decode cL_law 1490 = .ok (.ifCond .eq 5, 3) := by decide +kernel
theorem dL_law_1493 : decode cL_law 1493 = .ok (.iconst 0, 1) := by decide +kernel
theorem dL_law_1494 : decode cL_law 1494 = .ok (.ireturn, 1) := by decide +kernel
theorem dL_law_1495 : decode cL_law 1495 = .ok (.goto 455, 3) := by decide +kernel
theorem dL_law_1498 : decode cL_law 1498 = .ok (.aload_n 1, 1) := by decide +kernel
theorem dL_law_1499 : decode cL_law 1499 = .ok (.aload_n 0, 1) := by decide +kernel
theorem dL_law_1500 : decode cL_law 1500 = .ok (.iload 4, 2) := by decide +kernel
theorem dL_law_1502 : decode cL_law 1502 = .ok (.iconst 1, 1) := by decide +kernel
theorem dL_law_1503 : decode cL_law 1503 = .ok (.iadd, 1) := by decide +kernel
theorem dL_law_1504 : decode cL_law 1504 = .ok (.iaload, 1) := by decide +kernel
theorem dL_law_1505 : decode cL_law 1505 = .ok (.aload_n 0, 1) := by decide +kernel
theorem dL_law_1506 : decode cL_law 1506 = .ok (.iload 4, 2) := by decide +kernel
theorem dL_law_1508 : decode cL_law 1508 = .ok (.iconst 2, 1) := by decide +kernel
theorem dL_law_1509 : decode cL_law 1509 = .ok (.iadd, 1) := by decide +kernel
theorem dL_law_1510 : decode cL_law 1510 = .ok (.iaload, 1) := by decide +kernel
theorem dL_law_1511 : decode cL_law 1511 = .ok (.ifCond .eq 7, 3) := by decide +kernel
theorem dL_law_1514 : decode cL_law 1514 = .ok (.iconst 1, 1) := by decide +kernel
theorem dL_law_1515 : decode cL_law 1515 = .ok (.goto 4, 3) := by decide +kernel
theorem dL_law_1518 : decode cL_law 1518 = .ok (.iconst 0, 1) := by decide +kernel
theorem dL_law_1519 : decode cL_law 1519 = .ok (.aload_n 3, 1) := by decide +kernel
theorem dL_law_1520 : decode cL_law 1520 = .ok (.invokestatic 193, 3) := by decide +kernel
theorem dL_law_1523 : decode cL_law 1523 = .ok (.istore 5, 2) := by decide +kernel
theorem dL_law_1525 : decode cL_law 1525 = .ok (.aload_n 2, 1) := by decide +kernel
theorem dL_law_1526 : decode cL_law 1526 = .ok (.aload_n 0, 1) := by decide +kernel
theorem dL_law_1527 : decode cL_law 1527 = .ok (.iload 4, 2) := by decide +kernel
theorem dL_law_1529 : decode cL_law 1529 = .ok (.iconst 1, 1) := by decide +kernel
theorem dL_law_1530 : decode cL_law 1530 = .ok (.iadd, 1) := by decide +kernel
theorem dL_law_1531 : decode cL_law 1531 = .ok (.iaload, 1) := by decide +kernel
theorem dL_law_1532 : decode cL_law 1532 = .ok (.aload_n 0, 1) := by decide +kernel
theorem dL_law_1533 : decode cL_law 1533 = .ok (.iload 4, 2) := by decide +kernel
theorem dL_law_1535 : decode cL_law 1535 = .ok (.iconst 2, 1) := by decide +kernel
theorem dL_law_1536 : decode cL_law 1536 = .ok (.iadd, 1) := by decide +kernel
theorem dL_law_1537 : decode cL_law 1537 = .ok (.iaload, 1) := by decide +kernel
theorem dL_law_1538 : decode cL_law 1538 = .ok (.ifCond .eq 7, 3) := by decide +kernel
theorem dL_law_1541 : decode cL_law 1541 = .ok (.iconst 1, 1) := by decide +kernel
theorem dL_law_1542 : decode cL_law 1542 = .ok (.goto 4, 3) := by decide +kernel
theorem dL_law_1545 : decode cL_law 1545 = .ok (.iconst 0, 1) := by decide +kernel
theorem dL_law_1546 : decode cL_law 1546 = .ok (.invokevirtual 195, 3) := by decide +kernel
theorem dL_law_1549 : decode cL_law 1549 = .ok (.istore 6, 2) := by decide +kernel
theorem dL_law_1551 : decode cL_law 1551 = .ok (.aload_n 2, 1) := by decide +kernel
theorem dL_law_1552 : decode cL_law 1552 = .ok (.invokevirtual 109, 3) := by decide +kernel
theorem dL_law_1555 : decode cL_law 1555 = .ok (.iload 5, 2) := by decide +kernel
theorem dL_law_1557 : decode cL_law 1557 = .ok (.if_icmp .eq 5, 3) := by decide +kernel
theorem dL_law_1560 : decode cL_law 1560 = .ok (.iconst 0, 1) := by decide +kernel
theorem dL_law_1561 : decode cL_law 1561 = .ok (.ireturn, 1) := by decide +kernel
theorem dL_law_1562 : decode cL_law 1562 = .ok (.iload 5, 2) := by decide +kernel
theorem dL_law_1564 : decode cL_law 1564 = .ok (.ifCond .ne 15, 3) := by decide +kernel
theorem dL_law_1567 : decode cL_law 1567 = .ok (.aload_n 3, 1) := by decide +kernel
theorem dL_law_1568 : decode cL_law 1568 = .ok (.iconst 0, 1) := by decide +kernel
theorem dL_law_1569 : decode cL_law 1569 = .ok (.laload, 1) := by decide +kernel
theorem dL_law_1570 : decode cL_law 1570 = .ok (.iload 6, 2) := by decide +kernel
theorem dL_law_1572 : decode cL_law 1572 = .ok (.i2l, 1) := by decide +kernel
theorem dL_law_1573 : decode cL_law 1573 = .ok (.lcmp, 1) := by decide +kernel
theorem dL_law_1574 : decode cL_law 1574 = .ok (.ifCond .eq 5, 3) := by decide +kernel
theorem dL_law_1577 : decode cL_law 1577 = .ok (.iconst 0, 1) := by decide +kernel
theorem dL_law_1578 : decode cL_law 1578 = .ok (.ireturn, 1) := by decide +kernel
theorem dL_law_1579 : decode cL_law 1579 = .ok (.goto 371, 3) := by decide +kernel
theorem dL_law_1582 : decode cL_law 1582 = .ok (.aload_n 1, 1) := by decide +kernel
theorem dL_law_1583 : decode cL_law 1583 = .ok (.aload_n 0, 1) := by decide +kernel
theorem dL_law_1584 : decode cL_law 1584 = .ok (.iload 4, 2) := by decide +kernel
theorem dL_law_1586 : decode cL_law 1586 = .ok (.iconst 1, 1) := by decide +kernel
theorem dL_law_1587 : decode cL_law 1587 = .ok (.iadd, 1) := by decide +kernel
theorem dL_law_1588 : decode cL_law 1588 = .ok (.iaload, 1) := by decide +kernel
theorem dL_law_1589 : decode cL_law 1589 = .ok (.aload_n 3, 1) := by decide +kernel
theorem dL_law_1590 : decode cL_law 1590 = .ok (.invokestatic 196, 3) := by decide +kernel
theorem dL_law_1593 : decode cL_law 1593 = .ok (.istore 5, 2) := by decide +kernel
theorem dL_law_1595 : decode cL_law 1595 = .ok (.aload_n 2, 1) := by decide +kernel
theorem dL_law_1596 : decode cL_law 1596 = .ok (.aload_n 0, 1) := by decide +kernel
theorem dL_law_1597 : decode cL_law 1597 = .ok (.iload 4, 2) := by decide +kernel
theorem dL_law_1599 : decode cL_law 1599 = .ok (.iconst 1, 1) := by decide +kernel
theorem dL_law_1600 : decode cL_law 1600 = .ok (.iadd, 1) := by decide +kernel
theorem dL_law_1601 : decode cL_law 1601 = .ok (.iaload, 1) := by decide +kernel
theorem dL_law_1602 : decode cL_law 1602 = .ok (.invokevirtual 198, 3) := by decide +kernel
theorem dL_law_1605 : decode cL_law 1605 = .ok (.istore 6, 2) := by decide +kernel
theorem dL_law_1607 : decode cL_law 1607 = .ok (.aload_n 2, 1) := by decide +kernel
theorem dL_law_1608 : decode cL_law 1608 = .ok (.invokevirtual 109, 3) := by decide +kernel
theorem dL_law_1611 : decode cL_law 1611 = .ok (.iload 5, 2) := by decide +kernel
theorem dL_law_1613 : decode cL_law 1613 = .ok (.if_icmp .eq 5, 3) := by decide +kernel
theorem dL_law_1616 : decode cL_law 1616 = .ok (.iconst 0, 1) := by decide +kernel
theorem dL_law_1617 : decode cL_law 1617 = .ok (.ireturn, 1) := by decide +kernel
theorem dL_law_1618 : decode cL_law 1618 = .ok (.iload 5, 2) := by decide +kernel
theorem dL_law_1620 : decode cL_law 1620 = .ok (.ifCond .ne 22, 3) := by decide +kernel
theorem dL_law_1623 : decode cL_law 1623 = .ok (.aload_n 3, 1) := by decide +kernel
theorem dL_law_1624 : decode cL_law 1624 = .ok (.iconst 0, 1) := by decide +kernel
theorem dL_law_1625 : decode cL_law 1625 = .ok (.laload, 1) := by decide +kernel
theorem dL_law_1626 : decode cL_law 1626 = .ok (.iload 6, 2) := by decide +kernel
theorem dL_law_1628 : decode cL_law 1628 = .ok (.ifCond .eq 7, 3) := by decide +kernel
theorem dL_law_1631 : decode cL_law 1631 = .ok (.lconst 1, 1) := by decide +kernel
theorem dL_law_1632 : decode cL_law 1632 = .ok (.goto 4, 3) := by decide +kernel
theorem dL_law_1635 : decode cL_law 1635 = .ok (.lconst 0, 1) := by decide +kernel
theorem dL_law_1636 : decode cL_law 1636 = .ok (.lcmp, 1) := by decide +kernel
theorem dL_law_1637 : decode cL_law 1637 = .ok (.ifCond .eq 5, 3) := by decide +kernel
theorem dL_law_1640 : decode cL_law 1640 = .ok (.iconst 0, 1) := by decide +kernel
theorem dL_law_1641 : decode cL_law 1641 = .ok (.ireturn, 1) := by decide +kernel
theorem dL_law_1642 : decode cL_law 1642 = .ok (.goto 308, 3) := by decide +kernel
theorem dL_law_1645 : decode cL_law 1645 = .ok (.aload_n 1, 1) := by decide +kernel
theorem dL_law_1646 : decode cL_law 1646 = .ok (.aload_n 0, 1) := by decide +kernel
theorem dL_law_1647 : decode cL_law 1647 = .ok (.iload 4, 2) := by decide +kernel
theorem dL_law_1649 : decode cL_law 1649 = .ok (.iconst 1, 1) := by decide +kernel
theorem dL_law_1650 : decode cL_law 1650 = .ok (.iadd, 1) := by decide +kernel
theorem dL_law_1651 : decode cL_law 1651 = .ok (.iaload, 1) := by decide +kernel
theorem dL_law_1652 : decode cL_law 1652 = .ok (.aload_n 3, 1) := by decide +kernel
theorem dL_law_1653 : decode cL_law 1653 = .ok (.invokestatic 199, 3) := by decide +kernel
theorem dL_law_1656 : decode cL_law 1656 = .ok (.istore 5, 2) := by decide +kernel
theorem dL_law_1658 : decode cL_law 1658 = .ok (.aload_n 2, 1) := by decide +kernel
theorem dL_law_1659 : decode cL_law 1659 = .ok (.aload_n 0, 1) := by decide +kernel
theorem dL_law_1660 : decode cL_law 1660 = .ok (.iload 4, 2) := by decide +kernel
theorem dL_law_1662 : decode cL_law 1662 = .ok (.iconst 1, 1) := by decide +kernel
theorem dL_law_1663 : decode cL_law 1663 = .ok (.iadd, 1) := by decide +kernel
theorem dL_law_1664 : decode cL_law 1664 = .ok (.iaload, 1) := by decide +kernel
theorem dL_law_1665 : decode cL_law 1665 = .ok (.invokevirtual 201, 3) := by decide +kernel
theorem dL_law_1668 : decode cL_law 1668 = .ok (.istore 6, 2) := by decide +kernel
theorem dL_law_1670 : decode cL_law 1670 = .ok (.aload_n 2, 1) := by decide +kernel
theorem dL_law_1671 : decode cL_law 1671 = .ok (.invokevirtual 109, 3) := by decide +kernel
theorem dL_law_1674 : decode cL_law 1674 = .ok (.iload 5, 2) := by decide +kernel
theorem dL_law_1676 : decode cL_law 1676 = .ok (.if_icmp .eq 5, 3) := by decide +kernel
theorem dL_law_1679 : decode cL_law 1679 = .ok (.iconst 0, 1) := by decide +kernel
theorem dL_law_1680 : decode cL_law 1680 = .ok (.ireturn, 1) := by decide +kernel
theorem dL_law_1681 : decode cL_law 1681 = .ok (.iload 5, 2) := by decide +kernel
theorem dL_law_1683 : decode cL_law 1683 = .ok (.ifCond .ne 15, 3) := by decide +kernel
theorem dL_law_1686 : decode cL_law 1686 = .ok (.aload_n 3, 1) := by decide +kernel
theorem dL_law_1687 : decode cL_law 1687 = .ok (.iconst 0, 1) := by decide +kernel
theorem dL_law_1688 : decode cL_law 1688 = .ok (.laload, 1) := by decide +kernel
theorem dL_law_1689 : decode cL_law 1689 = .ok (.iload 6, 2) := by decide +kernel
theorem dL_law_1691 : decode cL_law 1691 = .ok (.i2l, 1) := by decide +kernel
theorem dL_law_1692 : decode cL_law 1692 = .ok (.lcmp, 1) := by decide +kernel
theorem dL_law_1693 : decode cL_law 1693 = .ok (.ifCond .eq 5, 3) := by decide +kernel
theorem dL_law_1696 : decode cL_law 1696 = .ok (.iconst 0, 1) := by decide +kernel
theorem dL_law_1697 : decode cL_law 1697 = .ok (.ireturn, 1) := by decide +kernel
theorem dL_law_1698 : decode cL_law 1698 = .ok (.goto 252, 3) := by decide +kernel
theorem dL_law_1701 : decode cL_law 1701 = .ok (.aload_n 1, 1) := by decide +kernel
theorem dL_law_1702 : decode cL_law 1702 = .ok (.invokevirtual 202, 3) := by decide +kernel
theorem dL_law_1705 : decode cL_law 1705 = .ok (.aload_n 2, 1) := by decide +kernel
theorem dL_law_1706 : decode cL_law 1706 = .ok (.invokevirtual 205, 3) := by decide +kernel
theorem dL_law_1709 : decode cL_law 1709 = .ok (.if_icmp .eq 241, 3) := by decide +kernel
theorem dL_law_1712 : decode cL_law 1712 = .ok (.iconst 0, 1) := by decide +kernel
theorem dL_law_1713 : decode cL_law 1713 = .ok (.ireturn, 1) := by decide +kernel
theorem dL_law_1714 : decode cL_law 1714 = .ok (.aload_n 1, 1) := by decide +kernel
theorem dL_law_1715 : decode cL_law 1715 = .ok (.aload_n 0, 1) := by decide +kernel
theorem dL_law_1716 : decode cL_law 1716 = .ok (.iload 4, 2) := by decide +kernel
theorem dL_law_1718 : decode cL_law 1718 = .ok (.iconst 1, 1) := by decide +kernel
theorem dL_law_1719 : decode cL_law 1719 = .ok (.iadd, 1) := by decide +kernel
theorem dL_law_1720 : decode cL_law 1720 = .ok (.iaload, 1) := by decide +kernel
theorem dL_law_1721 : decode cL_law 1721 = .ok (.aload_n 3, 1) := by decide +kernel
theorem dL_law_1722 : decode cL_law 1722 = .ok (.invokestatic 206, 3) := by decide +kernel
theorem dL_law_1725 : decode cL_law 1725 = .ok (.istore 5, 2) := by decide +kernel
theorem dL_law_1727 : decode cL_law 1727 = .ok (.aload_n 2, 1) := by decide +kernel
theorem dL_law_1728 : decode cL_law 1728 = .ok (.aload_n 0, 1) := by decide +kernel
theorem dL_law_1729 : decode cL_law 1729 = .ok (.iload 4, 2) := by decide +kernel
theorem dL_law_1731 : decode cL_law 1731 = .ok (.iconst 1, 1) := by decide +kernel
theorem dL_law_1732 : decode cL_law 1732 = .ok (.iadd, 1) := by decide +kernel
theorem dL_law_1733 : decode cL_law 1733 = .ok (.iaload, 1) := by decide +kernel
theorem dL_law_1734 : decode cL_law 1734 = .ok (.invokevirtual 208, 3) := by decide +kernel
theorem dL_law_1737 : decode cL_law 1737 = .ok (.istore 6, 2) := by decide +kernel
theorem dL_law_1739 : decode cL_law 1739 = .ok (.aload_n 2, 1) := by decide +kernel
theorem dL_law_1740 : decode cL_law 1740 = .ok (.invokevirtual 109, 3) := by decide +kernel
theorem dL_law_1743 : decode cL_law 1743 = .ok (.iload 5, 2) := by decide +kernel
theorem dL_law_1745 : decode cL_law 1745 = .ok (.if_icmp .eq 5, 3) := by decide +kernel
theorem dL_law_1748 : decode cL_law 1748 = .ok (.iconst 0, 1) := by decide +kernel
theorem dL_law_1749 : decode cL_law 1749 = .ok (.ireturn, 1) := by decide +kernel
theorem dL_law_1750 : decode cL_law 1750 = .ok (.iload 5, 2) := by decide +kernel
theorem dL_law_1752 : decode cL_law 1752 = .ok (.ifCond .ne 15, 3) := by decide +kernel
theorem dL_law_1755 : decode cL_law 1755 = .ok (.aload_n 3, 1) := by decide +kernel
theorem dL_law_1756 : decode cL_law 1756 = .ok (.iconst 0, 1) := by decide +kernel
theorem dL_law_1757 : decode cL_law 1757 = .ok (.laload, 1) := by decide +kernel
theorem dL_law_1758 : decode cL_law 1758 = .ok (.iload 6, 2) := by decide +kernel
theorem dL_law_1760 : decode cL_law 1760 = .ok (.i2l, 1) := by decide +kernel
theorem dL_law_1761 : decode cL_law 1761 = .ok (.lcmp, 1) := by decide +kernel
theorem dL_law_1762 : decode cL_law 1762 = .ok (.ifCond .eq 5, 3) := by decide +kernel
theorem dL_law_1765 : decode cL_law 1765 = .ok (.iconst 0, 1) := by decide +kernel
theorem dL_law_1766 : decode cL_law 1766 = .ok (.ireturn, 1) := by decide +kernel
theorem dL_law_1767 : decode cL_law 1767 = .ok (.goto 183, 3) := by decide +kernel
theorem dL_law_1770 : decode cL_law 1770 = .ok (.aload_n 1, 1) := by decide +kernel
theorem dL_law_1771 : decode cL_law 1771 = .ok (.aload_n 0, 1) := by decide +kernel
theorem dL_law_1772 : decode cL_law 1772 = .ok (.iload 4, 2) := by decide +kernel
theorem dL_law_1774 : decode cL_law 1774 = .ok (.iconst 1, 1) := by decide +kernel
theorem dL_law_1775 : decode cL_law 1775 = .ok (.iadd, 1) := by decide +kernel
theorem dL_law_1776 : decode cL_law 1776 = .ok (.iaload, 1) := by decide +kernel
theorem dL_law_1777 : decode cL_law 1777 = .ok (.aload_n 3, 1) := by decide +kernel
theorem dL_law_1778 : decode cL_law 1778 = .ok (.invokestatic 209, 3) := by decide +kernel
theorem dL_law_1781 : decode cL_law 1781 = .ok (.istore 5, 2) := by decide +kernel
theorem dL_law_1783 : decode cL_law 1783 = .ok (.aload_n 2, 1) := by decide +kernel
theorem dL_law_1784 : decode cL_law 1784 = .ok (.aload_n 0, 1) := by decide +kernel
theorem dL_law_1785 : decode cL_law 1785 = .ok (.iload 4, 2) := by decide +kernel
theorem dL_law_1787 : decode cL_law 1787 = .ok (.iconst 1, 1) := by decide +kernel
theorem dL_law_1788 : decode cL_law 1788 = .ok (.iadd, 1) := by decide +kernel
theorem dL_law_1789 : decode cL_law 1789 = .ok (.iaload, 1) := by decide +kernel
theorem dL_law_1790 : decode cL_law 1790 = .ok (.invokevirtual 211, 3) := by decide +kernel
theorem dL_law_1793 : decode cL_law 1793 = .ok (.istore 6, 2) := by decide +kernel
theorem dL_law_1795 : decode cL_law 1795 = .ok (.aload_n 2, 1) := by decide +kernel
theorem dL_law_1796 : decode cL_law 1796 = .ok (.invokevirtual 109, 3) := by decide +kernel
theorem dL_law_1799 : decode cL_law 1799 = .ok (.iload 5, 2) := by decide +kernel
theorem dL_law_1801 : decode cL_law 1801 = .ok (.if_icmp .eq 5, 3) := by decide +kernel
theorem dL_law_1804 : decode cL_law 1804 = .ok (.iconst 0, 1) := by decide +kernel
theorem dL_law_1805 : decode cL_law 1805 = .ok (.ireturn, 1) := by decide +kernel
theorem dL_law_1806 : decode cL_law 1806 = .ok (.iload 5, 2) := by decide +kernel
theorem dL_law_1808 : decode cL_law 1808 = .ok (.ifCond .ne 15, 3) := by decide +kernel
theorem dL_law_1811 : decode cL_law 1811 = .ok (.aload_n 3, 1) := by decide +kernel
theorem dL_law_1812 : decode cL_law 1812 = .ok (.iconst 0, 1) := by decide +kernel
theorem dL_law_1813 : decode cL_law 1813 = .ok (.laload, 1) := by decide +kernel
theorem dL_law_1814 : decode cL_law 1814 = .ok (.iload 6, 2) := by decide +kernel
theorem dL_law_1816 : decode cL_law 1816 = .ok (.i2l, 1) := by decide +kernel
theorem dL_law_1817 : decode cL_law 1817 = .ok (.lcmp, 1) := by decide +kernel
theorem dL_law_1818 : decode cL_law 1818 = .ok (.ifCond .eq 5, 3) := by decide +kernel
theorem dL_law_1821 : decode cL_law 1821 = .ok (.iconst 0, 1) := by decide +kernel
theorem dL_law_1822 : decode cL_law 1822 = .ok (.ireturn, 1) := by decide +kernel
theorem dL_law_1823 : decode cL_law 1823 = .ok (.goto 127, 3) := by decide +kernel
theorem dL_law_1826 : decode cL_law 1826 = .ok (.aload_n 1, 1) := by decide +kernel
theorem dL_law_1827 : decode cL_law 1827 = .ok (.aload_n 0, 1) := by decide +kernel
theorem dL_law_1828 : decode cL_law 1828 = .ok (.iload 4, 2) := by decide +kernel
theorem dL_law_1830 : decode cL_law 1830 = .ok (.iconst 1, 1) := by decide +kernel
theorem dL_law_1831 : decode cL_law 1831 = .ok (.iadd, 1) := by decide +kernel
theorem dL_law_1832 : decode cL_law 1832 = .ok (.iaload, 1) := by decide +kernel
theorem dL_law_1833 : decode cL_law 1833 = .ok (.aload_n 3, 1) := by decide +kernel
theorem dL_law_1834 : decode cL_law 1834 = .ok (.invokestatic 212, 3) := by decide +kernel
theorem dL_law_1837 : decode cL_law 1837 = .ok (.istore 5, 2) := by decide +kernel
theorem dL_law_1839 : decode cL_law 1839 = .ok (.aload_n 2, 1) := by decide +kernel
theorem dL_law_1840 : decode cL_law 1840 = .ok (.aload_n 0, 1) := by decide +kernel
theorem dL_law_1841 : decode cL_law 1841 = .ok (.iload 4, 2) := by decide +kernel
theorem dL_law_1843 : decode cL_law 1843 = .ok (.iconst 1, 1) := by decide +kernel
theorem dL_law_1844 : decode cL_law 1844 = .ok (.iadd, 1) := by decide +kernel
theorem dL_law_1845 : decode cL_law 1845 = .ok (.iaload, 1) := by decide +kernel
theorem dL_law_1846 : decode cL_law 1846 = .ok (.invokevirtual 214, 3) := by decide +kernel
theorem dL_law_1849 : decode cL_law 1849 = .ok (.istore 6, 2) := by decide +kernel
theorem dL_law_1851 : decode cL_law 1851 = .ok (.aload_n 2, 1) := by decide +kernel
theorem dL_law_1852 : decode cL_law 1852 = .ok (.invokevirtual 109, 3) := by decide +kernel
theorem dL_law_1855 : decode cL_law 1855 = .ok (.iload 5, 2) := by decide +kernel
theorem dL_law_1857 : decode cL_law 1857 = .ok (.if_icmp .eq 5, 3) := by decide +kernel
theorem dL_law_1860 : decode cL_law 1860 = .ok (.iconst 0, 1) := by decide +kernel
theorem dL_law_1861 : decode cL_law 1861 = .ok (.ireturn, 1) := by decide +kernel
theorem dL_law_1862 : decode cL_law 1862 = .ok (.iload 5, 2) := by decide +kernel
theorem dL_law_1864 : decode cL_law 1864 = .ok (.ifCond .ne 15, 3) := by decide +kernel
theorem dL_law_1867 : decode cL_law 1867 = .ok (.aload_n 3, 1) := by decide +kernel
theorem dL_law_1868 : decode cL_law 1868 = .ok (.iconst 0, 1) := by decide +kernel
theorem dL_law_1869 : decode cL_law 1869 = .ok (.laload, 1) := by decide +kernel
theorem dL_law_1870 : decode cL_law 1870 = .ok (.iload 6, 2) := by decide +kernel
theorem dL_law_1872 : decode cL_law 1872 = .ok (.i2l, 1) := by decide +kernel
theorem dL_law_1873 : decode cL_law 1873 = .ok (.lcmp, 1) := by decide +kernel
theorem dL_law_1874 : decode cL_law 1874 = .ok (.ifCond .eq 5, 3) := by decide +kernel
theorem dL_law_1877 : decode cL_law 1877 = .ok (.iconst 0, 1) := by decide +kernel
theorem dL_law_1878 : decode cL_law 1878 = .ok (.ireturn, 1) := by decide +kernel
theorem dL_law_1879 : decode cL_law 1879 = .ok (.goto 71, 3) := by decide +kernel
theorem dL_law_1882 : decode cL_law 1882 = .ok (.aload_n 1, 1) := by decide +kernel
theorem dL_law_1883 : decode cL_law 1883 = .ok (.invokevirtual 215, 3) := by decide +kernel
theorem dL_law_1886 : decode cL_law 1886 = .ok (.aload_n 2, 1) := by decide +kernel
theorem dL_law_1887 : decode cL_law 1887 = .ok (.invokevirtual 218, 3) := by decide +kernel
theorem dL_law_1890 : decode cL_law 1890 = .ok (.if_icmp .eq 60, 3) := by decide +kernel
theorem dL_law_1893 : decode cL_law 1893 = .ok (.iconst 0, 1) := by decide +kernel
theorem dL_law_1894 : decode cL_law 1894 = .ok (.ireturn, 1) := by decide +kernel
theorem dL_law_1895 : decode cL_law 1895 = .ok (.aload_n 1, 1) := by decide +kernel
theorem dL_law_1896 : decode cL_law 1896 = .ok (.invokevirtual 219, 3) := by decide +kernel
theorem dL_law_1899 : decode cL_law 1899 = .ok (.dstore 5, 2) := by decide +kernel
theorem dL_law_1901 : decode cL_law 1901 = .ok (.aload_n 2, 1) := by decide +kernel
theorem dL_law_1902 : decode cL_law 1902 = .ok (.invokevirtual 223, 3) := by decide +kernel
theorem dL_law_1905 : decode cL_law 1905 = .ok (.dstore 7, 2) := by decide +kernel
theorem dL_law_1907 : decode cL_law 1907 = .ok (.dload 5, 2) := by decide +kernel
theorem dL_law_1909 : decode cL_law 1909 = .ok (.dload 7, 2) := by decide +kernel
theorem dL_law_1911 : decode cL_law 1911 = .ok (.dcmp .l, 1) := by decide +kernel
theorem dL_law_1912 : decode cL_law 1912 = .ok (.ifCond .eq 21, 3) := by decide +kernel
theorem dL_law_1915 : decode cL_law 1915 = .ok (.dload 5, 2) := by decide +kernel
theorem dL_law_1917 : decode cL_law 1917 = .ok (.dload 5, 2) := by decide +kernel
theorem dL_law_1919 : decode cL_law 1919 = .ok (.dcmp .l, 1) := by decide +kernel
theorem dL_law_1920 : decode cL_law 1920 = .ok (.ifCond .eq 11, 3) := by decide +kernel
theorem dL_law_1923 : decode cL_law 1923 = .ok (.dload 7, 2) := by decide +kernel
theorem dL_law_1925 : decode cL_law 1925 = .ok (.dload 7, 2) := by decide +kernel
theorem dL_law_1927 : decode cL_law 1927 = .ok (.dcmp .l, 1) := by decide +kernel
theorem dL_law_1928 : decode cL_law 1928 = .ok (.ifCond .ne 5, 3) := by decide +kernel
theorem dL_law_1931 : decode cL_law 1931 = .ok (.iconst 0, 1) := by decide +kernel
theorem dL_law_1932 : decode cL_law 1932 = .ok (.ireturn, 1) := by decide +kernel
theorem dL_law_1933 : decode cL_law 1933 = .ok (.goto 17, 3) := by decide +kernel
theorem dL_law_1936 : decode cL_law 1936 = .ok (.aload_n 1, 1) := by decide +kernel
theorem dL_law_1937 : decode cL_law 1937 = .ok (.invokevirtual 224, 3) := by decide +kernel
theorem dL_law_1940 : decode cL_law 1940 = .ok (.aload_n 2, 1) := by decide +kernel
theorem dL_law_1941 : decode cL_law 1941 = .ok (.invokevirtual 228, 3) := by decide +kernel
theorem dL_law_1944 : decode cL_law 1944 = .ok (.lcmp, 1) := by decide +kernel
theorem dL_law_1945 : decode cL_law 1945 = .ok (.ifCond .eq 5, 3) := by decide +kernel
theorem dL_law_1948 : decode cL_law 1948 = .ok (.iconst 0, 1) := by decide +kernel
theorem dL_law_1949 : decode cL_law 1949 = .ok (.ireturn, 1) := by decide +kernel
theorem dL_law_1950 : decode cL_law 1950 = .ok (.iinc 4 4, 3) := by decide +kernel
theorem dL_law_1953 : decode cL_law 1953 = .ok (.goto (-1930), 3) := by decide +kernel
theorem dL_law_1956 : decode cL_law 1956 = .ok (.iconst 1, 1) := by decide +kernel
theorem dL_law_1957 : decode cL_law 1957 = .ok (.ireturn, 1) := by decide +kernel
abbrev vwCl : List vw_C := [(RX0, TX0, 18), (RX1, TX1, 13)]
end
section
/-! rows on bits, shifts and unsigned numbers, to paste: each family out of a closed proof of our own, whole with what it rests on; each by itself clean at Lean in its own claim (generation 39, form 5). Take a family whole -/
/-! ===== Int32 by its bits: bt x i ===== -/
def bt (x : Int32) (i : Nat) : Bool := x.toBitVec.getLsbD i
theorem b_ext {x y : Int32} (h : ∀ i, i < 32 → bt x i = bt y i) : x = y := Int32.toBitVec_inj.mp (BitVec.eq_of_getLsbD_eq (fun i hi => h i hi))
theorem b_or (x y : Int32) (i : Nat) : bt (x ||| y) i = (bt x i || bt y i) := by unfold bt; rw [Int32.toBitVec_or, BitVec.getLsbD_or]
theorem b_and (x y : Int32) (i : Nat) : bt (x &&& y) i = (bt x i && bt y i) := by unfold bt; rw [Int32.toBitVec_and, BitVec.getLsbD_and]
theorem b_xor (x y : Int32) (i : Nat) : bt (x ^^^ y) i = (bt x i ^^ bt y i) := by unfold bt; rw [Int32.toBitVec_xor, BitVec.getLsbD_xor]
theorem b_big {x : Int32} {i : Nat} (h : 32 ≤ i) : bt x i = false := BitVec.getLsbD_of_ge _ _ h
theorem b_255 (i : Nat) : bt 255 i = decide (i < 8) := by
  rcases Nat.lt_or_ge i 32 with h | h
  · exact (by decide +kernel : ∀ i, i < 32 → bt 255 i = decide (i < 8)) i h
  · rw [b_big h, decide_eq_false (by omega)]
theorem b_65535 (i : Nat) : bt 65535 i = decide (i < 16) := by
  rcases Nat.lt_or_ge i 32 with h | h
  · exact (by decide +kernel : ∀ i, i < 32 → bt 65535 i = decide (i < 16)) i h
  · rw [b_big h, decide_eq_false (by omega)]
theorem b_m1 : ∀ i, i < 32 → bt (-1) i = true := by decide +kernel
theorem b_0 (i : Nat) : bt 0 i = false := BitVec.getLsbD_zero
theorem s_l : ∀ n, n < 32 → ((nI n &&& 31).toBitVec.smod 32).toNat = n := by decide +kernel
theorem s_u : ∀ n, n < 32 → (((nI n).toUInt32 &&& Int32.toUInt32 31).toBitVec % 32).toNat = n := by decide +kernel
theorem b_shl (n : Nat) (hn : n < 32) (x : Int32) {i : Nat} (hi : i < 32) : bt (x <<< (nI n &&& 31)) i = (decide (n ≤ i) && bt x (i - n)) := by
  unfold bt
  rw [Int32.toBitVec_shiftLeft]
  show (x.toBitVec <<< ((nI n &&& 31).toBitVec.smod 32).toNat).getLsbD i = _
  rw [s_l n hn, BitVec.getLsbD_shiftLeft]
  rcases Nat.lt_or_ge i n with h | h
  · simp [h, Nat.not_le.mpr h]
  · simp [hi, h, Nat.not_lt.mpr h]
theorem b_ushr (n : Nat) (hn : n < 32) (x : Int32) (i : Nat) : bt ((x.toUInt32 >>> ((nI n).toUInt32 &&& Int32.toUInt32 31)).toInt32) i = bt x (n + i) := by
  show (x.toUInt32 >>> ((nI n).toUInt32 &&& Int32.toUInt32 31)).toBitVec.getLsbD i = x.toUInt32.toBitVec.getLsbD (n + i)
  rw [UInt32.toBitVec_shiftRight]
  show (x.toUInt32.toBitVec >>> (((nI n).toUInt32 &&& Int32.toUInt32 31).toBitVec % 32).toNat).getLsbD i = _
  rw [s_u n hn, BitVec.getLsbD_ushiftRight]
theorem b_sshr (n : Nat) (hn : n < 32) (x : Int32) {i : Nat} (hi : i < 32) : bt (x >>> (nI n &&& 31)) i = if n + i < 32 then bt x (n + i) else bt x 31 := by
  unfold bt
  rw [Int32.toBitVec_shiftRight]
  show (x.toBitVec.sshiftRight ((nI n &&& 31).toBitVec.smod 32).toNat).getLsbD i = _
  rw [s_l n hn, BitVec.getLsbD_sshiftRight, BitVec.msb_eq_getLsbD_last]
  simp [hi]
theorem b_shl8 (x : Int32) {i : Nat} (hi : i < 32) : bt (x <<< ((8 : Int32) &&& 31)) i = (decide (8 ≤ i) && bt x (i - 8)) := b_shl 8 (by omega) x hi
theorem b_shl16 (x : Int32) {i : Nat} (hi : i < 32) : bt (x <<< ((16 : Int32) &&& 31)) i = (decide (16 ≤ i) && bt x (i - 16)) := b_shl 16 (by omega) x hi
theorem b_shl24 (x : Int32) {i : Nat} (hi : i < 32) : bt (x <<< ((24 : Int32) &&& 31)) i = (decide (24 ≤ i) && bt x (i - 24)) := b_shl 24 (by omega) x hi
theorem b_sshr8 (x : Int32) {i : Nat} (hi : i < 32) : bt (x >>> ((8 : Int32) &&& 31)) i = if 8 + i < 32 then bt x (8 + i) else bt x 31 := b_sshr 8 (by omega) x hi
/-! ===== nI under and, xor, >>>, one bit, 65535 ===== -/
theorem nx_and (a b : Nat) : nI a &&& nI b = nI (a &&& b) := by
  apply Int32.toBitVec_inj.1
  show BitVec.ofNat 32 a &&& BitVec.ofNat 32 b = BitVec.ofNat 32 (a &&& b)
  apply BitVec.eq_of_getLsbD_eq
  intro i hi
  simp [hi]
theorem nx_xor (a b : Nat) : nI a ^^^ nI b = nI (a ^^^ b) := by
  apply Int32.toBitVec_inj.1
  show BitVec.ofNat 32 a ^^^ BitVec.ofNat 32 b = BitVec.ofNat 32 (a ^^^ b)
  apply BitVec.eq_of_getLsbD_eq
  intro i hi
  simp [hi]
theorem nx_cnt : ∀ j : Fin 32, (UInt32.ofNat j.val &&& Int32.toUInt32 31).toNat % 32 = j.val := by decide +kernel
theorem nx_ush {k j : Nat} (hk : k < 65536) (hj : j < 32) : ((nI k).toUInt32 >>> ((nI j).toUInt32 &&& Int32.toUInt32 31)).toInt32 = nI (k >>> j) := by
  have hs : k >>> j ≤ k := by
    rw [Nat.shiftRight_eq_div_pow]
    exact Nat.div_le_self _ _
  have e2 : UInt32.ofNat k >>> (UInt32.ofNat j &&& Int32.toUInt32 31) = UInt32.ofNat (k >>> j) := by
    apply UInt32.toNat_inj.1
    have h1 : (UInt32.ofNat k).toNat = k := Nat.mod_eq_of_lt (by omega)
    have h2 : (UInt32.ofNat (k >>> j)).toNat = k >>> j := Nat.mod_eq_of_lt (by omega)
    rw [UInt32.toNat_shiftRight, nx_cnt ⟨j, hj⟩, h1, h2]
  show (UInt32.ofNat k >>> (UInt32.ofNat j &&& Int32.toUInt32 31)).toInt32 = _
  rw [e2]
  rfl
theorem nx_bit {k j : Nat} (hk : k < 65536) (hj : j < 16) : (((nI k).toUInt32 >>> ((nI j).toUInt32 &&& Int32.toUInt32 31)).toInt32 &&& 1) = 0 ↔ k.testBit j = false := by
  rw [nx_ush hk (by omega)]
  show nI (k >>> j) &&& nI 1 = 0 ↔ _
  rw [nx_and, Nat.and_one_is_mod, ← nI_0, nI_eq (by omega) (by omega), Nat.testBit_eq_decide_div_mod_eq, Nat.shiftRight_eq_div_pow, decide_eq_false_iff_not]
  generalize k / 2 ^ j = z
  omega
theorem nx_mod (k : Nat) : nI k &&& 65535 = nI (k % 65536) := by
  show nI k &&& nI 65535 = _
  rw [nx_and, show (65535 : Nat) = 2 ^ 16 - 1 from rfl, Nat.and_two_pow_sub_one_eq_mod]
theorem nx_m16 {k : Nat} (h : k < 65536) : nI k &&& 65535 = nI k := by rw [nx_mod, Nat.mod_eq_of_lt h]
theorem nx_mask (x : Int32) : ∃ k, k < 65536 ∧ x &&& 65535 = nI k := by
  have e : x = nI x.toBitVec.toNat := by
    apply Int32.toBitVec_inj.1
    show x.toBitVec = BitVec.ofNat 32 x.toBitVec.toNat
    simp
  refine ⟨x.toBitVec.toNat % 65536, Nat.mod_lt _ (by omega), ?_⟩
  rw [← nx_mod, ← e]
/-! ===== Int32 as a set of bits: test, set ===== -/
def nf_M (m : Int32) : Nat := 4294967296 - m.toBitVec.toNat
theorem nf_sh : ∀ l, l < 32 → ((1 : Int32) <<< (nI l &&& 31)).toBitVec = BitVec.twoPow 32 l := by decide +kernel
theorem nf_sl : ∀ l, l < 32 → (((nI l).toUInt32 &&& Int32.toUInt32 31).toBitVec % 32).toNat = l := by decide +kernel
theorem nf_tp : ∀ l, l < 32 → BitVec.twoPow 32 l ≠ 0#32 := by decide +kernel
theorem nf_bit (m : Int32) (l : Nat) (hl : l < 32) : ((m.toUInt32 >>> ((nI l).toUInt32 &&& Int32.toUInt32 31)).toInt32 &&& 1) = 0 ↔ (m &&& ((1 : Int32) <<< (nI l &&& 31))) = 0 := by
  have e : ((m.toUInt32 >>> ((nI l).toUInt32 &&& Int32.toUInt32 31)).toInt32).toBitVec = m.toBitVec >>> l := by
    show m.toBitVec >>> (((nI l).toUInt32 &&& Int32.toUInt32 31).toBitVec % 32) = m.toBitVec >>> l
    rw [BitVec.ushiftRight_eq', nf_sl l hl]
  rw [← Int32.toBitVec_inj, ← Int32.toBitVec_inj, Int32.toBitVec_and, Int32.toBitVec_and, nf_sh l hl, e, BitVec.and_twoPow]
  show (m.toBitVec >>> l &&& 1#32) = 0#32 ↔ _ = 0#32
  rw [BitVec.and_one_eq_setWidth_ofBool_getLsbD, BitVec.getLsbD_ushiftRight, Nat.add_zero]
  cases hb : m.toBitVec.getLsbD l
  · exact ⟨fun _ => by simp, fun _ => by decide⟩
  · exact ⟨fun z => absurd z (by decide), fun z => absurd ((if_pos rfl).symm.trans z) (nf_tp l hl)⟩
theorem nf_gr (m k : Int32) (h : m &&& k = 0) (hk : k ≠ 0) : nf_M (m ||| k) < nf_M m := by
  have hm := m.toBitVec.isLt
  have hm' := (m ||| k).toBitVec.isLt
  have h1 : m.toBitVec.toNat ≤ (m ||| k).toBitVec.toNat := by
    rw [Int32.toBitVec_or, BitVec.toNat_or]
    exact Nat.left_le_or
  have h2 : m.toBitVec.toNat ≠ (m ||| k).toBitVec.toNat := by
    intro e
    have e2 : m = m ||| k := Int32.toBitVec_inj.mp (BitVec.eq_of_toNat_eq e)
    apply hk
    apply Int32.toBitVec_inj.mp
    show k.toBitVec = 0#32
    apply BitVec.eq_of_getLsbD_eq
    intro i hi
    have a : m.toBitVec.getLsbD i = (m.toBitVec.getLsbD i || k.toBitVec.getLsbD i) := by rw [← BitVec.getLsbD_or, ← Int32.toBitVec_or, ← e2]
    have b : (m.toBitVec.getLsbD i && k.toBitVec.getLsbD i) = false := by
      rw [← BitVec.getLsbD_and, ← Int32.toBitVec_and, h]
      exact BitVec.getLsbD_zero
    rw [BitVec.getLsbD_zero]
    revert a b
    cases m.toBitVec.getLsbD i <;> cases k.toBitVec.getLsbD i <;> simp
  unfold nf_M
  omega
/-! ===== a byte read unsigned ===== -/
theorem bp_b (x : Int32) : x.toInt8.toInt32 &&& 255 = x &&& 255 := by
  apply Int32.toBitVec_inj.mp
  rw [Int32.toBitVec_and, Int32.toBitVec_and, Int8.toBitVec_toInt32, Int32.toBitVec_toInt8]
  apply BitVec.eq_of_getLsbD_eq
  intro i hi
  rw [BitVec.getLsbD_and, BitVec.getLsbD_and]
  have hm : ∀ i < 32, 8 ≤ i → (255 : Int32).toBitVec.getLsbD i = false := by decide
  rcases Nat.lt_or_ge i 8 with z | z
  · rw [BitVec.getLsbD_signExtend, BitVec.getLsbD_signExtend, if_pos z, if_pos hi]
    simp only [z, hi, decide_true, Bool.true_and]
  · rw [hm i hi z]; simp
/-! ===== the char cast and 65535 ===== -/
theorem em_w (v : Int32) : ∃ w : Nat, w < 65536 ∧ (v.toUInt32 % 65536).toInt32 = nI w ∧ v &&& 65535 = nI w := by
  have hr := lw_u16_r v
  have h0 : (0 : Int32).toInt = 0 := by decide
  obtain ⟨w, h1, h2⟩ := nI_of (x := lw_u16 v) (by rw [Int32.lt_iff_toInt_lt]; omega)
  have h3 : (v.toUInt32 % 65536).toInt32 = nI w := h2
  rw [h2, nI_toInt h1] at hr
  exact ⟨w, by omega, h3, by rw [← lg_i2c_mask, ← lg_i2c_nf, h3]⟩
/-! ===== Int64 as a set of bits: test, set, clear ===== -/
theorem ts_nf {x : Bool} (h : ¬ x = false) : x = true := by cases x <;> first | rfl | exact absurd rfl h
theorem ts_nt {x : Bool} (h : ¬ x = true) : x = false := by cases x <;> first | rfl | exact absurd rfl h
theorem ts_bit {w : Int64} {s : UInt64} {j : Nat} (hj : j < 64) (hs : s.toNat = j) : ((w.toUInt64 >>> s).toInt64 &&& 1) = 0 ↔ w.toBitVec.getLsbD j = false := by
  have e : (w.toUInt64 >>> s).toInt64.toBitVec = w.toBitVec >>> j := by
    apply BitVec.eq_of_toNat_eq
    show (w.toUInt64 >>> s).toNat = _
    rw [UInt64.toNat_shiftRight, hs, Nat.mod_eq_of_lt hj, BitVec.toNat_ushiftRight]
    rfl
  rw [← Int64.toBitVec_inj, Int64.toBitVec_and, e]
  show w.toBitVec >>> j &&& 1#64 = 0#64 ↔ _
  constructor
  · intro h
    have t := congrArg (fun x => x.getLsbD 0) h
    simpa using t
  · intro h
    apply BitVec.eq_of_getLsbD_eq
    intro i hi
    cases i with
    | zero => simp [h]
    | succ i => simp
theorem ts_or {w m : Int64} {j : Nat} (hj : j < 64) (hm : m.toBitVec = BitVec.twoPow 64 j) : (w ||| m) = w ↔ w.toBitVec.getLsbD j = true := by
  rw [← Int64.toBitVec_inj, Int64.toBitVec_or, hm]
  constructor
  · intro h
    have t := congrArg (fun x => x.getLsbD j) h
    simp only [BitVec.getLsbD_or, BitVec.getLsbD_twoPow] at t
    simpa [hj] using t.symm
  · intro h
    apply BitVec.eq_of_getLsbD_eq
    intro i hi
    rw [BitVec.getLsbD_or, BitVec.getLsbD_twoPow]
    by_cases e : j = i
    · subst e; rw [h, Bool.true_or]
    · simp [e]
theorem ts_and {w m : Int64} {j : Nat} (hj : j < 64) (hm : m.toBitVec = BitVec.twoPow 64 j) : (w &&& (m ^^^ (-1))) = w ↔ w.toBitVec.getLsbD j = false := by
  have ha : (-1 : Int64).toBitVec = BitVec.allOnes 64 := by decide
  rw [← Int64.toBitVec_inj, Int64.toBitVec_and, Int64.toBitVec_xor, hm, ha]
  constructor
  · intro h
    have t := congrArg (fun x => x.getLsbD j) h
    simp only [BitVec.getLsbD_and, BitVec.getLsbD_xor, BitVec.getLsbD_twoPow, BitVec.getLsbD_allOnes] at t
    simpa [hj] using t.symm
  · intro h
    apply BitVec.eq_of_getLsbD_eq
    intro i hi
    rw [BitVec.getLsbD_and, BitVec.getLsbD_xor, BitVec.getLsbD_twoPow, BitVec.getLsbD_allOnes]
    by_cases e : j = i
    · subst e; rw [h, Bool.false_and]
    · simp [e, hi]
/-! ===== lN n to 2^64: shifts, and, or, masks, one bit ===== -/
theorem wb_tb (n : Nat) : (lN n).toBitVec = BitVec.ofNat 64 n := rfl
theorem wb_inj {a b : Int64} (h : a.toBitVec = b.toBitVec) : a = b := Int64.toBitVec_inj.mp h
theorem wb_tn {n : Nat} (h : n < 2 ^ 64) : (lN n).toBitVec.toNat = n := by rw [wb_tb, BitVec.toNat_ofNat, Nat.mod_eq_of_lt h]
theorem wb_of (x : Int64) : ∃ n, n < 2 ^ 64 ∧ x = lN n := ⟨x.toBitVec.toNat, x.toBitVec.isLt, wb_inj (by rw [wb_tb]; simp)⟩
theorem wb_of32 (x : Int32) : ∃ n, n < 2 ^ 32 ∧ x = nI n := ⟨x.toBitVec.toNat, x.toBitVec.isLt, Int32.toBitVec_inj.mp (by show _ = BitVec.ofNat 32 _; simp)⟩
theorem wb_c : ∀ k, k < 64 → ((nI k).toInt64 &&& 63) = lN k := by decide +kernel
theorem wb_cu : ∀ k, k < 64 → ((nI k).toInt64.toUInt64 &&& Int64.toUInt64 63) = UInt64.ofNat k := by decide +kernel
theorem wb_sm : ∀ k, k < 64 → (BitVec.ofNat 64 k).smod 64 = BitVec.ofNat 64 k := by decide +kernel
theorem wb_pw {a b : Nat} (h : a ≤ b) : 2 ^ b = 2 ^ a * 2 ^ (b - a) := by rw [← Nat.pow_add]; congr 1; omega
theorem wb_lt2 {a b : Nat} (h : a < b) : 2 ^ a < 2 ^ b := Nat.pow_lt_pow_right (by decide) h
theorem wb_mod (n : Nat) : lN n = lN (n % 2 ^ 64) := wb_inj (by rw [wb_tb, wb_tb]; apply BitVec.eq_of_toNat_eq; rw [BitVec.toNat_ofNat, BitVec.toNat_ofNat, Nat.mod_mod])
theorem wb_shr {n k : Nat} (hn : n < 2 ^ 64) (hk : k < 64) : ((lN n).toUInt64 >>> ((nI k).toInt64.toUInt64 &&& Int64.toUInt64 63)).toInt64 = lN (n / 2 ^ k) := by
  rw [wb_cu k hk]
  apply wb_inj
  apply BitVec.eq_of_toNat_eq
  show ((lN n).toUInt64 >>> UInt64.ofNat k).toNat = (BitVec.ofNat 64 _).toNat
  have h1 : (UInt64.ofNat k).toNat = k := by
    show (BitVec.ofNat 64 k).toNat = k
    rw [BitVec.toNat_ofNat, Nat.mod_eq_of_lt (by omega)]
  have h2 : (lN n).toUInt64.toNat = n := wb_tn hn
  rw [UInt64.toNat_shiftRight, h1, h2, Nat.mod_eq_of_lt hk, Nat.shiftRight_eq_div_pow, BitVec.toNat_ofNat, Nat.mod_eq_of_lt (Nat.lt_of_le_of_lt (Nat.div_le_self _ _) hn)]
theorem wb_shl (n : Nat) {k : Nat} (hk : k < 64) : lN n <<< ((nI k).toInt64 &&& 63) = lN (n * 2 ^ k) := by
  rw [wb_c k hk]
  apply wb_inj
  rw [Int64.toBitVec_shiftLeft, wb_tb, wb_tb, wb_tb, wb_sm k hk]
  apply BitVec.eq_of_toNat_eq
  rw [BitVec.shiftLeft_eq', BitVec.toNat_shiftLeft, BitVec.toNat_ofNat, BitVec.toNat_ofNat, BitVec.toNat_ofNat, Nat.mod_eq_of_lt (show k < 2 ^ 64 by omega), Nat.shiftLeft_eq, Nat.mul_mod, Nat.mod_mod, ← Nat.mul_mod]
theorem wb_and {a b : Nat} (ha : a < 2 ^ 64) (hb : b < 2 ^ 64) : lN a &&& lN b = lN (a &&& b) := by
  apply wb_inj
  rw [Int64.toBitVec_and, wb_tb, wb_tb, wb_tb]
  apply BitVec.eq_of_toNat_eq
  rw [BitVec.toNat_and, BitVec.toNat_ofNat, BitVec.toNat_ofNat, BitVec.toNat_ofNat, Nat.mod_eq_of_lt ha, Nat.mod_eq_of_lt hb, Nat.mod_eq_of_lt (Nat.and_lt_two_pow _ hb)]
theorem wb_or {a b : Nat} (ha : a < 2 ^ 64) (hb : b < 2 ^ 64) : lN a ||| lN b = lN (a ||| b) := by
  apply wb_inj
  rw [Int64.toBitVec_or, wb_tb, wb_tb, wb_tb]
  apply BitVec.eq_of_toNat_eq
  rw [BitVec.toNat_or, BitVec.toNat_ofNat, BitVec.toNat_ofNat, BitVec.toNat_ofNat, Nat.mod_eq_of_lt ha, Nat.mod_eq_of_lt hb, Nat.mod_eq_of_lt (Nat.or_lt_two_pow ha hb)]
theorem wb_mask {n k : Nat} (hn : n < 2 ^ 64) (hk : k < 64) : lN n &&& lN (2 ^ k - 1) = lN (n % 2 ^ k) := by
  rw [wb_and hn (by have := wb_lt2 hk; omega), Nat.and_two_pow_sub_one_eq_mod]
theorem wb_a1 {n : Nat} (hn : n < 2 ^ 64) : lN n &&& 1 = lN (n % 2) := wb_mask (k := 1) hn (by decide)
theorem wb_bit {n k : Nat} (hn : n < 2 ^ 64) (hk : k < 64) : ((lN n).toUInt64 >>> ((nI k).toInt64.toUInt64 &&& Int64.toUInt64 63)).toInt64 &&& 1 = lN (n / 2 ^ k % 2) := by
  rw [wb_shr hn hk, wb_a1 (Nat.lt_of_le_of_lt (Nat.div_le_self _ _) hn)]
theorem wb_xor {q k : Nat} (hk : k < 63) (h : 2 ^ k ≤ q) (h2 : q < 2 ^ (k + 1)) : lN q ^^^ lN (2 ^ k) = lN (q - 2 ^ k) := by
  obtain ⟨r, rfl⟩ : ∃ r, q = 2 ^ k + r := ⟨q - 2 ^ k, by omega⟩
  have hr : r < 2 ^ k := by rw [Nat.pow_succ] at h2; omega
  have hx : (2 ^ k + r) ^^^ 2 ^ k = r := by
    apply Nat.eq_of_testBit_eq
    intro i
    rw [Nat.testBit_xor, Nat.testBit_two_pow]
    rcases Nat.lt_trichotomy i k with h | h | h
    · rw [Nat.testBit_two_pow_add_gt h]
      simp [show ¬ k = i by omega]
    · subst h
      rw [Nat.testBit_two_pow_add_eq]
      simp
    · have a1 : 2 ^ (k + 1) ≤ 2 ^ i := Nat.pow_le_pow_right (by decide) h
      rw [Nat.testBit_lt_two_pow (show 2 ^ k + r < 2 ^ i by omega), Nat.testBit_lt_two_pow (show r < 2 ^ i by omega)]
      simp [show ¬ k = i by omega]
  have b1 := wb_lt2 (show k + 1 < 64 by omega)
  have b2 := wb_lt2 (show k < 64 by omega)
  apply wb_inj
  rw [Int64.toBitVec_xor, wb_tb, wb_tb, wb_tb]
  apply BitVec.eq_of_toNat_eq
  rw [BitVec.toNat_xor, BitVec.toNat_ofNat, BitVec.toNat_ofNat, BitVec.toNat_ofNat, Nat.mod_eq_of_lt (by omega : 2 ^ k + r < 2 ^ 64), Nat.mod_eq_of_lt b2, hx, Nat.add_sub_cancel_left, Nat.mod_eq_of_lt (by omega)]
/-! ===== lN: masks, 'or' of parts that don't overlap is a sum ===== -/
theorem u_tn {n : Nat} (h : n < 2 ^ 64) : (UInt64.ofNat n).toNat = n := Nat.mod_eq_of_lt h
theorem g_and {a b c : Nat} (ha : a < 2 ^ 64) (hb : b < 2 ^ 64) (hc : a &&& b = c) : lN a &&& lN b = lN c := by
  subst hc
  have h : UInt64.ofNat a &&& UInt64.ofNat b = UInt64.ofNat (a &&& b) := UInt64.toNat_inj.mp (by rw [UInt64.toNat_and, u_tn ha, u_tn hb, u_tn (Nat.and_lt_two_pow a hb)])
  have h2 := congrArg UInt64.toInt64 h
  exact h2
theorem g_and1 {a : Nat} (ha : a < 2 ^ 64) : lN a &&& 1 = lN (a % 2) := g_and (b := 1) ha (by decide) (Nat.and_two_pow_sub_one_eq_mod a 1)
theorem g_mask {a s p : Nat} (hp : 2 ^ s = p) (hs : s < 64) (ha : a < 2 ^ 64) : lN a &&& lN (p - 1) = lN (a % p) := by
  subst hp
  have := Nat.pow_lt_pow_right (show 1 < 2 by decide) hs
  exact g_and ha (by omega) (Nat.and_two_pow_sub_one_eq_mod a s)
theorem g_or {k p a b : Nat} (hp : 2 ^ k = p) (ha : a < p) (h : b * p + a < 2 ^ 64) : lN (b * p) ||| lN a = lN (b * p + a) := by
  subst hp
  have h1 : b * 2 ^ k ||| a = b * 2 ^ k + a := by rw [← Nat.shiftLeft_eq, Nat.shiftLeft_add_eq_or_of_lt ha]
  have h3 : UInt64.ofNat (b * 2 ^ k) ||| UInt64.ofNat a = UInt64.ofNat (b * 2 ^ k + a) := UInt64.toNat_inj.mp (by rw [UInt64.toNat_or, u_tn (by omega), u_tn (by omega), u_tn h, h1])
  have h2 := congrArg UInt64.toInt64 h3
  exact h2
theorem g_or' {k p a b : Nat} (hp : 2 ^ k = p) (ha : a < p) (h : a + b * p < 2 ^ 64) : lN a ||| lN (b * p) = lN (a + b * p) := by
  rw [Int64.or_comm, g_or hp ha (by omega), Nat.add_comm]
theorem g_ushr {a k p : Nat} {y : UInt64} (hy : y = UInt64.ofNat k) (hk : k < 64) (hp : 2 ^ k = p) (ha : a < 2 ^ 64) : ((lN a).toUInt64 >>> y).toInt64 = lN (a / p) := by
  subst hy hp
  have h : UInt64.ofNat a >>> UInt64.ofNat k = UInt64.ofNat (a / 2 ^ k) := UInt64.toNat_inj.mp (by rw [UInt64.toNat_shiftRight, u_tn ha, u_tn (by omega), u_tn (Nat.lt_of_le_of_lt (Nat.div_le_self _ _) ha), Nat.mod_eq_of_lt hk, Nat.shiftRight_eq_div_pow])
  have h2 := congrArg UInt64.toInt64 h
  exact h2
theorem g_shl {a k p : Nat} {y : Int64} (hy : y.toBitVec.smod 64 = BitVec.ofNat 64 k) (hk : k < 64) (hp : 2 ^ k = p) (ha : a < 2 ^ 64) : lN a <<< y = lN (a * p) := by
  subst hp
  apply Int64.toBitVec_inj.mp
  rw [Int64.toBitVec_shiftLeft, hy]
  apply BitVec.eq_of_toNat_eq
  have hb : (lN a).toBitVec.toNat = a := Nat.mod_eq_of_lt ha
  have hk' : (BitVec.ofNat 64 k).toNat = k := Nat.mod_eq_of_lt (by omega)
  have h : ((lN a).toBitVec <<< BitVec.ofNat 64 k).toNat = (a * 2 ^ k) % 2 ^ 64 := by simp only [BitVec.shiftLeft_eq', BitVec.toNat_shiftLeft, hb, hk', Nat.shiftLeft_eq]
  exact h
/-! ===== lN to 2^62 under >> and >>> ===== -/
theorem pf_lI {a : Nat} (h : a < 2 ^ 63) : (lN a).toInt = (a : Int) := lg_ofNat_toInt h
theorem pf_shr {a d : Nat} {D : Int64} (hD : (D.toBitVec.smod 64).toNat = d) (h : a < 2 ^ 62) : lN a >>> D = lN (a / 2 ^ d) := by
  have hd : a / 2 ^ d ≤ a := Nat.div_le_self _ _
  apply Int64.toInt_inj.mp
  have e : (lN a >>> D).toInt = (lN a).toInt >>> d := by
    rw [← hD]
    exact BitVec.toInt_sshiftRight ..
  rw [e, Int.shiftRight_eq_div_pow, pf_lI (by omega), pf_lI (by omega)]
  rfl
theorem pf_ushr {a d : Nat} {D : UInt64} (hD : D.toNat % 64 = d) (h : a < 2 ^ 62) : ((lN a).toUInt64 >>> D).toInt64 = lN (a / 2 ^ d) := by
  have hd : a / 2 ^ d ≤ a := Nat.div_le_self _ _
  have e : (lN a).toUInt64 >>> D = UInt64.ofNat (a / 2 ^ d) := UInt64.toNat_inj.mp (by
    rw [UInt64.toNat_shiftRight, hD, Nat.shiftRight_eq_div_pow, UInt64.toNat_ofNat']
    show (UInt64.ofNat a).toNat / 2 ^ d = _
    rw [UInt64.toNat_ofNat', Nat.mod_eq_of_lt (by omega), Nat.mod_eq_of_lt (by omega)])
  rw [e]
  rfl
theorem pf_andw (x : Int64) : ∃ m, m < 2 ^ 32 ∧ x &&& 4294967295 = lN m := ⟨x.toBitVec.toNat % 2 ^ 32, Nat.mod_lt _ (by decide), Int64.toBitVec_inj.mp (BitVec.eq_of_toNat_eq (by
  show (x.toBitVec &&& 4294967295#64).toNat = (BitVec.ofNat 64 (x.toBitVec.toNat % 2 ^ 32)).toNat
  rw [BitVec.toNat_and, show (4294967295#64).toNat = 2 ^ 32 - 1 from by decide, Nat.and_two_pow_sub_one_eq_mod, BitVec.toNat_ofNat]
  omega))⟩
/-! ===== Int64 as an unsigned number: uN x ===== -/
def uN (x : Int64) : Nat := x.toUInt64.toNat
theorem uN_lt (x : Int64) : uN x < 18446744073709551616 := x.toUInt64.toNat_lt
theorem uN_inj {x y : Int64} (h : uN x = uN y) : x = y := congrArg UInt64.toInt64 (UInt64.toNat_inj.mp h)
theorem uN_add (x y : Int64) : uN (x + y) = (uN x + uN y) % 18446744073709551616 := by
  show (x.toUInt64 + y.toUInt64).toNat = _
  exact UInt64.toNat_add _ _
theorem uN_mul (x y : Int64) : uN (x * y) = (uN x * uN y) % 18446744073709551616 := by
  show (x.toUInt64 * y.toUInt64).toNat = _
  exact UInt64.toNat_mul _ _
theorem uN_shl (x : Int64) : uN (x <<< ((1 : Int32).toInt64 &&& 63)) = (2 * uN x) % 18446744073709551616 := by
  have h : (((1 : Int32).toInt64 &&& 63).toBitVec.smod 64).toNat = 1 := by decide
  show (x.toBitVec <<< (((1 : Int32).toInt64 &&& 63).toBitVec.smod 64).toNat).toNat = _
  rw [h, BitVec.toNat_shiftLeft, Nat.shiftLeft_eq, Nat.mul_comm]
  rfl
theorem uN_shr (x : Int64) (s : UInt64) : uN (x.toUInt64 >>> s).toInt64 = uN x / 2 ^ (s.toNat % 64) := by
  show (x.toUInt64 >>> s).toNat = _
  rw [UInt64.toNat_shiftRight, Nat.shiftRight_eq_div_pow]
  rfl
theorem uN_s32 (x : Int64) : uN (x.toUInt64 >>> ((32 : Int32).toInt64.toUInt64 &&& Int64.toUInt64 63)).toInt64 = uN x / 4294967296 := by
  have h : ((32 : Int32).toInt64.toUInt64 &&& Int64.toUInt64 63).toNat % 64 = 32 := by decide
  rw [uN_shr, h]
theorem uN_s63 (x : Int64) : uN (x.toUInt64 >>> ((63 : Int32).toInt64.toUInt64 &&& Int64.toUInt64 63)).toInt64 = uN x / 9223372036854775808 := by
  have h : ((63 : Int32).toInt64.toUInt64 &&& Int64.toUInt64 63).toNat % 64 = 63 := by decide
  rw [uN_shr, h]
theorem uN_lo (x : Int64) : uN (x &&& 4294967295) = uN x % 4294967296 := by
  show (x.toUInt64 &&& Int64.toUInt64 4294967295).toNat = _
  rw [UInt64.toNat_and]
  exact Nat.and_two_pow_sub_one_eq_mod _ 32
theorem uN_bit (x : Int64) : (x &&& 1) = 0 ↔ uN x % 2 = 0 := by
  have h : uN (x &&& 1) = uN x % 2 := by
    show (x.toUInt64 &&& Int64.toUInt64 1).toNat = _
    rw [UInt64.toNat_and]
    exact Nat.and_two_pow_sub_one_eq_mod _ 1
  rw [← h]
  exact ⟨fun z => by rw [z]; rfl, fun z => uN_inj (z.trans rfl)⟩
theorem uN_or {x y : Int64} (hy : uN y < 2) : uN ((x <<< ((1 : Int32).toInt64 &&& 63)) ||| y) = (2 * uN x) % 18446744073709551616 + uN y := by
  have h1 : uN ((x <<< ((1 : Int32).toInt64 &&& 63)) ||| y) = uN (x <<< ((1 : Int32).toInt64 &&& 63)) ||| uN y := UInt64.toNat_or _ _
  have h2 : (2 * uN x) % 18446744073709551616 = 2 ^ 1 * (uN x % 9223372036854775808) := by omega
  rw [h1, uN_shl, h2]
  exact (Nat.two_pow_add_eq_or_of_lt (i := 1) hy _).symm
theorem nat_xor {a : Nat} (h : a < 18446744073709551616) : a ^^^ 2 ^ 63 = (a + 9223372036854775808) % 18446744073709551616 := by
  have h1 : (a ^^^ 2 ^ 63) % 2 ^ 63 = a % 2 ^ 63 := by rw [Nat.xor_mod_two_pow, Nat.mod_self, Nat.xor_zero]
  have h2 : (a ^^^ 2 ^ 63) / 2 ^ 63 = (a / 2 ^ 63) ^^^ 1 := by rw [Nat.xor_div_two_pow, Nat.div_self (Nat.two_pow_pos 63)]
  have h3 : a / 2 ^ 63 = 0 ∨ a / 2 ^ 63 = 1 := by omega
  generalize a ^^^ 2 ^ 63 = t at h1 h2
  rcases h3 with h3 | h3
  · rw [h3] at h2
    have h2 : t / 2 ^ 63 = 1 := h2
    omega
  · rw [h3] at h2
    have h2 : t / 2 ^ 63 = 0 := h2
    omega
theorem uN_xor (x : Int64) : uN (x ^^^ (-9223372036854775808)) = (uN x + 9223372036854775808) % 18446744073709551616 := by
  rw [← nat_xor (uN_lt x)]
  exact UInt64.toNat_xor _ _
theorem uN_int (x : Int64) : x.toInt = if 2 * uN x < 18446744073709551616 then (uN x : Int) else (uN x : Int) - 18446744073709551616 := BitVec.toInt_eq_toNat_cond _
theorem uN_le (x y : Int64) : (x ^^^ (-9223372036854775808)) ≤ (y ^^^ (-9223372036854775808)) ↔ uN x ≤ uN y := by
  have hx := uN_lt x
  have hy := uN_lt y
  rw [Int64.le_iff_toInt_le, uN_int, uN_int, uN_xor, uN_xor]
  omega
theorem uN_sk (x : Int64) {k : Nat} (hk : k < 64) : uN (x.toUInt64 >>> ((nI k).toInt64.toUInt64 &&& Int64.toUInt64 63)).toInt64 = uN x / 2 ^ k := by
  have h : ((nI k).toInt64.toUInt64 &&& Int64.toUInt64 63).toNat % 64 = k := by
    rw [nI_l (by omega), UInt64.toNat_and]
    have e : (lN k).toUInt64.toNat = k % 2 ^ 64 := rfl
    have e2 : (Int64.toUInt64 63).toNat = 2 ^ 6 - 1 := by decide
    rw [e, e2, Nat.and_two_pow_sub_one_eq_mod]
    omega
  rw [uN_shr, h]
/-! ===== unsigned comparison by xor with the least ===== -/
theorem lN_bv (n : Nat) : (lN n).toBitVec = BitVec.ofNat 64 n := rfl
theorem lN_nat {n : Nat} (h : n < 2 ^ 64) : (lN n).toBitVec.toNat = n := by rw [lN_bv, BitVec.toNat_ofNat]; exact Nat.mod_eq_of_lt h
theorem lN_xor (a b : Nat) : lN a ^^^ lN b = lN (a ^^^ b) := by
  apply Int64.toBitVec_inj.mp; rw [Int64.toBitVec_xor, lN_bv, lN_bv, lN_bv]; apply BitVec.eq_of_getLsbD_eq; intro i hi; simp [BitVec.getLsbD_ofNat, Nat.testBit_xor, hi]
theorem lN_ti {m : Nat} (h : m < 2 ^ 64) : (lN m).toInt = if m < 2 ^ 63 then (m : Int) else (m : Int) - 2 ^ 64 := by
  have c := BitVec.toInt_eq_toNat_cond (lN m).toBitVec
  rw [lN_nat h] at c
  show (lN m).toBitVec.toInt = _
  rw [c]
  split <;> split <;> omega
theorem xor63 {x : Nat} (h : x < 2 ^ 63) : x ^^^ 2 ^ 63 = 2 ^ 63 + x := by
  apply Nat.eq_of_testBit_eq
  intro i
  rw [Nat.testBit_xor, Nat.testBit_two_pow]
  rcases Nat.lt_trichotomy i 63 with z | z | z
  · rw [Nat.testBit_two_pow_add_gt z, decide_eq_false (by omega)]; simp
  · subst z; rw [Nat.testBit_two_pow_add_eq]; simp
  · have hp : 2 ^ 64 ≤ 2 ^ i := Nat.pow_le_pow_right (by decide) z
    rw [Nat.testBit_lt_two_pow (show x < 2 ^ i by omega), Nat.testBit_lt_two_pow (show 2 ^ 63 + x < 2 ^ i by omega), decide_eq_false (by omega)]; rfl
theorem xorS {a : Nat} (h : a < 2 ^ 64) : (lN a ^^^ (-9223372036854775808)).toInt = (a : Int) - 2 ^ 63 := by
  rw [show (-9223372036854775808 : Int64) = lN (2 ^ 63) from by decide +kernel, lN_xor]
  rcases Nat.lt_or_ge a (2 ^ 63) with z | z
  · rw [xor63 z, lN_ti (by omega), if_neg (by omega)]; omega
  · obtain ⟨x, rfl⟩ : ∃ x, a = 2 ^ 63 + x := ⟨a - 2 ^ 63, by omega⟩
    rw [← xor63 (by omega), Nat.xor_assoc, Nat.xor_self, Nat.xor_zero, lN_ti (by omega), if_pos (by omega), xor63 (by omega)]; omega
theorem ultL {a b : Nat} (ha : a < 2 ^ 64) (hb : b < 2 ^ 64) : ((lN b ^^^ (-9223372036854775808)) ≤ (lN a ^^^ (-9223372036854775808))) ↔ b ≤ a := by
  rw [Int64.le_iff_toInt_le, xorS ha, xorS hb]; omega
/-! ===== Int64 masks of n low bits ===== -/
theorem cr_bits (W U M : BitVec 64) : ((W &&& U) &&& (U &&& (M ^^^ BitVec.allOnes 64))) = 0#64 ↔ (W &&& U) &&& M = W &&& U := by
  constructor
  · intro h
    apply BitVec.eq_of_getLsbD_eq
    intro i hi
    have e := congrArg (fun x => BitVec.getLsbD x i) h
    simp only [BitVec.getLsbD_and, BitVec.getLsbD_xor, BitVec.getLsbD_allOnes, BitVec.getLsbD_zero, hi, decide_true] at e ⊢
    revert e
    cases W.getLsbD i <;> cases U.getLsbD i <;> cases M.getLsbD i <;> decide
  · intro h
    apply BitVec.eq_of_getLsbD_eq
    intro i hi
    have e := congrArg (fun x => BitVec.getLsbD x i) h
    simp only [BitVec.getLsbD_and, BitVec.getLsbD_xor, BitVec.getLsbD_allOnes, BitVec.getLsbD_zero, hi, decide_true] at e ⊢
    revert e
    cases W.getLsbD i <;> cases U.getLsbD i <;> cases M.getLsbD i <;> decide
theorem cr_mask (w U m : Int64) (n : Nat) (hm : m.toBitVec.toNat = 2 ^ n - 1) : ((w &&& U) &&& (U &&& (m ^^^ (-1)))) = 0 ↔ (w &&& U).toBitVec.toNat < 2 ^ n := by
  have e0 : (-1 : Int64).toBitVec = BitVec.allOnes 64 := by decide
  have z0 : (0 : Int64).toBitVec = 0#64 := by decide
  rw [← Int64.toBitVec_inj, z0, Int64.toBitVec_and, Int64.toBitVec_and, Int64.toBitVec_and, Int64.toBitVec_xor, e0, cr_bits]
  generalize w.toBitVec &&& U.toBitVec = T
  rw [← BitVec.toNat_inj, BitVec.toNat_and, hm, Nat.and_two_pow_sub_one_eq_mod]
  constructor
  · intro h
    have t := Nat.mod_lt T.toNat (Nat.two_pow_pos n)
    rw [h] at t
    exact t
  · exact Nat.mod_eq_of_lt
theorem cr_shr (t : Int64) (x : UInt64) (n : Nat) (hx : x.toNat % 64 = n) : (t.toUInt64 >>> x).toInt64 = 0 ↔ t.toBitVec.toNat < 2 ^ n := by
  rw [← Int64.toBitVec_inj, ← BitVec.toNat_inj]
  show (t.toUInt64 >>> x).toNat = 0 ↔ t.toUInt64.toNat < 2 ^ n
  rw [UInt64.toNat_shiftRight, hx, Nat.shiftRight_eq_div_pow]
  constructor
  · intro h
    have d : t.toUInt64.toNat / 2 ^ n < 1 := by
      rw [h]
      decide
    have e := (Nat.div_lt_iff_lt_mul (Nat.two_pow_pos n)).mp d
    rw [Nat.one_mul] at e
    exact e
  · exact Nat.div_eq_of_lt
theorem cr_amt (s : Int64) : ∃ n, n < 64 ∧ s &&& 63 = lN n ∧ (s.toUInt64 &&& Int64.toUInt64 63).toNat % 64 = n := by
  have e : (s.toUInt64 &&& Int64.toUInt64 63).toNat = s.toUInt64.toNat % 2 ^ 6 := by
    rw [UInt64.toNat_and, show (Int64.toUInt64 63).toNat = 2 ^ 6 - 1 from by decide, Nat.and_two_pow_sub_one_eq_mod]
  refine ⟨s.toUInt64.toNat % 2 ^ 6, by omega, ?_, by omega⟩
  rw [← Int64.toBitVec_inj, ← BitVec.toNat_inj]
  show (s.toUInt64 &&& Int64.toUInt64 63).toNat = (BitVec.ofNat 64 (s.toUInt64.toNat % 2 ^ 6)).toNat
  rw [e, BitVec.toNat_ofNat]
  omega
end
section
/-! the words for a state of the system, and rows for calls that change nothing -/
/-- of ExamGarden: (places, students, graded, their sum, the bits of exams), rows of numbers (0 lefts, 1 rights, 2 standing, 3 passedCounts, 4 passedForks), int rows (0 lowest, 1 highest, 2 weights, 3 grades, 4 sure, 5 hopes, 6 hindsights), the row of reached bits -/
abbrev GS : Type := (Nat × Nat × Int32 × Int32 × Int64) × (Nat → Nat → Nat) × (Nat → Nat → Int32) × (Nat → Int64)
abbrev gn (σ : GS) : Nat := σ.1.1
abbrev gk (σ : GS) : Nat := σ.1.2.1
abbrev gc (σ : GS) : Int32 := σ.1.2.2.1
abbrev gs (σ : GS) : Int32 := σ.1.2.2.2.1
abbrev ge (σ : GS) : Int64 := σ.1.2.2.2.2
abbrev gN (σ : GS) (i : Nat) : Nat → Nat := σ.2.1 i
abbrev gR (σ : GS) (i : Nat) : Nat → Int32 := σ.2.2.1 i
abbrev gL (σ : GS) : Nat → Int64 := σ.2.2.2
/-- class ids: of the objects' classes and slots, of int rows, long rows, boolean rows -/
abbrev GE : Type := va_G × ClassId × ClassId × ClassId
abbrev gTy (E : GE) : List (ClassId × FieldType) := [(E.2.1, .int), (E.2.2.1, .long), (E.2.2.2, .boolean)]
abbrev gK (E : GE) (U : State) : Prop := va_K E.1 vwCl (gTy E) U
abbrev gP (E : GE) (ws : va_W) (H : Heap) : Prop := va_P E.1 vwCl ws H
abbrev gI (E : GE) (n : Nat) (f : Nat → Int32) : va_E := .inl (E.2.1, n, .inl f)
abbrev gJ (E : GE) (n : Nat) (f : Nat → Int64) : va_E := .inl (E.2.2.1, n, .inr (.inl f))
abbrev gZ (E : GE) (n : Nat) (f : Nat → Int32) : va_E := .inl (E.2.2.2, n, .inl f)
abbrev gM (E : GE) (n : Nat) (f : Nat → Nat) : va_E := .inl (E.2.1, n, .inl (fun j => nI (f j)))
abbrev gF (a : Nat → Nat) (σ : GS) : List Value := [.int (nI (gn σ)), .int (nI (gk σ)), .int (gc σ), .int (gs σ), .long (ge σ), .ref (a 1), .ref (a 2), .ref (a 3), .ref (a 4), .ref (a 5), .ref (a 6), .ref (a 7), .ref (a 8), .ref (a 9), .ref (a 10), .ref (a 11), .ref (a 12), .ref (a 13)]
/-- the cells of an ExamGarden at a 0, its rows at a 1 .. a 13 -/
abbrev gW (E : GE) (a : Nat → Nat) (σ : GS) : va_W := [(a 0, .inr (0, gF a σ)), (a 1, gI E 40 (gR σ 0)), (a 2, gI E 40 (gR σ 1)), (a 3, gM E 40 (gN σ 0)), (a 4, gM E 40 (gN σ 1)), (a 5, gI E 40 (gR σ 2)), (a 6, gI E 40 (gR σ 3)), (a 7, gI E 40 (gR σ 4)), (a 8, gI E 40 (gR σ 5)), (a 9, gI E 40 (gR σ 6)), (a 10, gJ E 40 (gL σ)), (a 11, gM E 8 (gN σ 2)), (a 12, gM E 8 (gN σ 3)), (a 13, gM E 320 (gN σ 4))]
/-- a world held, and the tables known -/
def gB (E : GE) (ws : va_W) (U : State) : Prop := gP E ws U.heap ∧ gK E U
theorem gB_blind {E : GE} {ws : va_W} {av : List Value} : FrameBlind (va_Pc av (gB E ws)) := fun a U g mk q => by
  obtain ⟨q0, qP, qK⟩ := q
  exact ⟨q0, qP, va_K.moved (u := U) (U := U.calling g mk a) (Vm.Alike.refl U.vm) qK⟩
theorem gB_preS {E : GE} {ws : va_W} {s : State} {H : Heap} (hP : gP E ws H) (hK : gK E s) (As : List Value) : PreS s H (va_Pc As (gB E ws)) As :=
  ⟨gB_blind, fun U hU hW => ⟨rfl, by rw [hU]; exact hP, va_K.moved hW.alike hK⟩⟩
theorem gB_preV {E : GE} {ws : va_W} {s : State} {H : Heap} {b ci q0 : Nat} {q : vw_C} {fs : List Value} (hP : gP E ws H) (hK : gK E s) (hc : vwCl[ci]? = some q) (he : ws[q0]? = some (b, .inr (ci, fs))) (As : List Value) : PreV s H q.1 b (va_Pc (.ref b :: As) (gB E ws)) As :=
  ⟨gB_blind, va_recv hK hP hc he, fun U hU hW => ⟨rfl, by rw [hU]; exact hP, va_K.moved hW.alike hK⟩⟩
/-- what a body stands on -/
abbrev gX (p : Program) (s : State) (m : MethodId) (args : Array Value) (meth : Method) (c : Code) (cc : ByteArray) (nL : Nat) (ret : Option FieldType) (ws : List Cond) (C : String) : Prop :=
  CallFix p m c cc nL s args ws C ∧ meth.sig.returnType = ret ∧ meth.locks = false ∧ meth.name = meth.name
/-- a method by its body -/
theorem w_met {l : Launch} {y : MethodName} {ws ws' : List Cond} {rm : Room} {av : List Value} {B : State → Prop} {Qc : Array Value → State → Outcome → State → Prop} {mc ms : Nat} {free : Addr → Prop} {cc : ByteArray} {maxL : Nat} {ret : Option FieldType}
    (hy : plainName y.cls = true) (hw : ws = Cond.code y cc maxL ret :: ws') (hn : (lg_sl av).length ≤ maxL)
    (body : ∀ (p : Program) (e : Env) (s : State) (m : MethodId) (below : List Frame) (meth : Method) (c : Code) (ls : Array Slot), CallFix p m c cc maxL s av.toArray ws y.cls → meth.sig.returnType = ret → meth.locks = false → meth.name = y.name → B s → lv_has ls maxL (lv_args 0 av) →
      W p l e (headSpec ws rm).room s m av.toArray below meth c s.heap [] 0 0 (MQ below Qc av.toArray s mc ms free) (F0 m 0 ls [])) : Met l y ws rm (va_Pc av B) Qc mc ms free := by
  refine Met.ofW (cc := cc) (maxL := maxL) (ret := ret) hy hw ?_
  intro p e s m args below meth c s₁ B0 hml hv
  obtain ⟨rfl, hB⟩ := hv
  rw [lg_entry_eq]
  exact body p e s m below meth c _ ⟨B0.exec, B0.bytes, hml, findClass_of_methodNamed B0.named, atoms_spec (ws := ws) B0.pre⟩ B0.returns B0.notSynchronized (name_of_methodNamed B0.named B0.method).1 hB (lv_entry av hn)
section GC
variable {p : Program} {l : Launch} {e : Env} {R : Room} {s : State} {m : MethodId} {args : Array Value} {below : List Frame} {meth : Method} {c : Code} {H : Heap} {locs : List Loc} {cells slots : Nat} {Q : State → Prop}
variable {cc bytes : ByteArray} {pc nL maxL n index : Nat} {ls : Array Slot} {rest st0 : List Value} {E : GE} {ws wc : va_W} {Ts wl : List Cond} {own C : String} {y : MethodName} {ret : Option FieldType} {rm : Room} {b ci q0 : Nat} {fs : List Value} {q : vw_C} {As : List Value}
/-- a call on an object that changes nothing and answers an int -/
theorem g_vi {v : Int32} (S : CallFix p m c cc nL s args Ts own) (hM : Met l y wl rm (va_Pc (.ref b :: As) (gB E wc)) (vp_Si (fun r => r = v)) 0 0 (fun _ => False)) (cw : CallW R s args own q.1 index y bytes maxL ret wl rm 0 0 n) (hK : gK E s) (hP : gP E wc H) (hc : vwCl[ci]? = some q) (he : wc[q0]? = some (b, .inr (ci, fs)))
    (hn : As.length = n) (hsize : ls.size = nL) (hstack : st0 = As.reverse ++ .ref b :: rest) (hW : (rest.map fun v => v.category).sum ≤ 8) (hf : cells ≤ R.cells ∧ slots ≤ R.slots) (hdg : decode cc pc = .ok (.invokevirtual index, 3))
    (kk : W p l e R s m args below meth c H locs cells slots Q (F0 m (pc + 3) ls (.int v :: rest))) : W p l e R s m args below meth c H locs cells slots Q (F0 m pc ls st0) :=
  vp_callSi (W.runV S hM cw (gB_preV hP hK hc he As) rfl hn hsize hstack (lv_room hW) hdg hf) (fun _ h => h ▸ kk)
theorem g_vl {v : Int64} (S : CallFix p m c cc nL s args Ts own) (hM : Met l y wl rm (va_Pc (.ref b :: As) (gB E wc)) (vp_Sl (fun r => r = v)) 0 0 (fun _ => False)) (cw : CallW R s args own q.1 index y bytes maxL ret wl rm 0 0 n) (hK : gK E s) (hP : gP E wc H) (hc : vwCl[ci]? = some q) (he : wc[q0]? = some (b, .inr (ci, fs)))
    (hn : As.length = n) (hsize : ls.size = nL) (hstack : st0 = As.reverse ++ .ref b :: rest) (hW : (rest.map fun v => v.category).sum ≤ 8) (hf : cells ≤ R.cells ∧ slots ≤ R.slots) (hdg : decode cc pc = .ok (.invokevirtual index, 3))
    (kk : W p l e R s m args below meth c H locs cells slots Q (F0 m (pc + 3) ls (.long v :: rest))) : W p l e R s m args below meth c H locs cells slots Q (F0 m pc ls st0) :=
  vp_callSl (W.runV S hM cw (gB_preV hP hK hc he As) rfl hn hsize hstack (lv_room hW) hdg hf) (fun _ h => h ▸ kk)
theorem g_vv (S : CallFix p m c cc nL s args Ts own) (hM : Met l y wl rm (va_Pc (.ref b :: As) (gB E wc)) (va_Sv (fun _ => True)) 0 0 (fun _ => False)) (cw : CallW R s args own q.1 index y bytes maxL ret wl rm 0 0 n) (hK : gK E s) (hP : gP E wc H) (hc : vwCl[ci]? = some q) (he : wc[q0]? = some (b, .inr (ci, fs)))
    (hn : As.length = n) (hsize : ls.size = nL) (hstack : st0 = As.reverse ++ .ref b :: rest) (hW : (rest.map fun v => v.category).sum ≤ 8) (hf : cells ≤ R.cells ∧ slots ≤ R.slots) (hdg : decode cc pc = .ok (.invokevirtual index, 3))
    (kk : W p l e R s m args below meth c H locs cells slots Q (F0 m (pc + 3) ls rest)) : W p l e R s m args below meth c H locs cells slots Q (F0 m pc ls st0) :=
  va_csv (W.runV S hM cw (gB_preV hP hK hc he As) rfl hn hsize hstack (lv_room hW) hdg hf) (fun _ => kk)
theorem g_si {v : Int32} (S : CallFix p m c cc nL s args Ts own) (hM : Met l y wl rm (va_Pc As (gB E wc)) (vp_Si (fun r => r = v)) 0 0 (fun _ => False)) (cw : CallB R s args own index y bytes maxL ret wl rm 0 0 n ∧ (Cond.static y).before args s = true) (hK : gK E s) (hP : gP E wc H)
    (hn : As.length = n) (hsize : ls.size = nL) (hstack : st0 = As.reverse ++ rest) (hW : (rest.map fun v => v.category).sum ≤ 8) (hf : cells ≤ R.cells ∧ slots ≤ R.slots) (hdg : decode cc pc = .ok (.invokestatic index, 3))
    (kk : W p l e R s m args below meth c H locs cells slots Q (F0 m (pc + 3) ls (.int v :: rest))) : W p l e R s m args below meth c H locs cells slots Q (F0 m pc ls st0) :=
  vp_callSi (W.runS S hM cw (gB_preS hP hK As) rfl hn hsize hstack (lv_room hW) hdg hf) (fun _ h => h ▸ kk)
theorem g_sl {v : Int64} (S : CallFix p m c cc nL s args Ts own) (hM : Met l y wl rm (va_Pc As (gB E wc)) (vp_Sl (fun r => r = v)) 0 0 (fun _ => False)) (cw : CallB R s args own index y bytes maxL ret wl rm 0 0 n ∧ (Cond.static y).before args s = true) (hK : gK E s) (hP : gP E wc H)
    (hn : As.length = n) (hsize : ls.size = nL) (hstack : st0 = As.reverse ++ rest) (hW : (rest.map fun v => v.category).sum ≤ 8) (hf : cells ≤ R.cells ∧ slots ≤ R.slots) (hdg : decode cc pc = .ok (.invokestatic index, 3))
    (kk : W p l e R s m args below meth c H locs cells slots Q (F0 m (pc + 3) ls (.long v :: rest))) : W p l e R s m args below meth c H locs cells slots Q (F0 m pc ls st0) :=
  vp_callSl (W.runS S hM cw (gB_preS hP hK As) rfl hn hsize hstack (lv_room hW) hdg hf) (fun _ h => h ▸ kk)
theorem g_sv (S : CallFix p m c cc nL s args Ts own) (hM : Met l y wl rm (va_Pc As (gB E wc)) (va_Sv (fun _ => True)) 0 0 (fun _ => False)) (cw : CallB R s args own index y bytes maxL ret wl rm 0 0 n ∧ (Cond.static y).before args s = true) (hK : gK E s) (hP : gP E wc H)
    (hn : As.length = n) (hsize : ls.size = nL) (hstack : st0 = As.reverse ++ rest) (hW : (rest.map fun v => v.category).sum ≤ 8) (hf : cells ≤ R.cells ∧ slots ≤ R.slots) (hdg : decode cc pc = .ok (.invokestatic index, 3))
    (kk : W p l e R s m args below meth c H locs cells slots Q (F0 m (pc + 3) ls rest)) : W p l e R s m args below meth c H locs cells slots Q (F0 m pc ls st0) :=
  va_csv (W.runS S hM cw (gB_preS hP hK As) rfl hn hsize hstack (lv_room hW) hdg hf) (fun _ => kk)
end GC
/-- truth as the machine has it -/
def b2i (b : Bool) : Int32 := if b then 1 else 0
theorem b2i_eq0 {b : Bool} : b2i b = 0 ↔ b = false := by cases b <;> decide
theorem b2i_ne0 {b : Bool} : ¬ b2i b = 0 ↔ b = true := by cases b <;> decide
theorem b2i_nar (b : Bool) : narrow .boolean (.int (b2i b)) = .int (b2i b) := by cases b <;> rfl
end
section
set_option maxHeartbeats 4000000 in
set_option maxRecDepth 100000 in
theorem c_at (l : Launch) (E : GE) (q n : Nat) (f : Nat → Int32) (i v : Int32) (hi : vp_in i n) (hn : n < 2 ^ 31) (hv : f i.toNatClampNeg = v) : Met l yX0_at wsX0_at { frames := 0, cells := 0, slots := 0, locals := 0 } (va_Pc [.ref q, .int i] (gB E [(q, gI E n f)])) (vp_Si (fun r => r = v)) 0 0 (fun _ => False) := by
  refine w_met (cc := cX0_at) (maxL := 2) (ret := some .int) (by decide) rfl (Nat.le_of_ble_eq_true rfl) ?_
  intro p e s m below meth c ls S hr hlocks hname hB hl
  obtain ⟨hP, hK⟩ := hB
  obtain ⟨hx, hb, hml, hown, hts⟩ := id S
  have hl : lv_has ls 2 [(0, .ref q), (1, .int i)] := hl
  obtain ⟨k, hk, rfl⟩ := vp_in_of hi hn
  refine lv_iload_n hx hb dX0_at_0 rfl (lv_at hl 1 rfl) ?_
  refine lv_if_lt (tgt := 16) hx hb dX0_at_1 (by decide) (fun h => absurd h (nI_pos (by omega))) (fun _ => ?_)
  refine lv_iload_n hx hb dX0_at_4 rfl (lv_at hl 1 rfl) ?_
  refine lv_aload_n hx hb dX0_at_5 rfl (lv_at hl 0 rfl) ?_
  refine va_alen hx hb hK hP 0 0 rfl rfl (v := nI n) rfl dX0_at_6 ?_
  refine lv_icmp_ge (tgt := 16) hx hb dX0_at_7 (by decide) (fun h => absurd h (nI_ge hk hn)) (fun _ => ?_)
  refine lv_aload_n hx hb dX0_at_10 rfl (lv_at hl 0 rfl) ?_
  refine lv_iload_n hx hb dX0_at_11 rfl (lv_at hl 1 rfl) ?_
  refine va_iald hx hb hK hP 0 0 rfl rfl hi dX0_at_12 ?_
  refine lv_goto (tgt := 17) hx hb dX0_at_13 (by decide) ?_
  exact W.iret hx hb hr (fun t ht hW => ⟨_, rfl, hv, ht⟩) (fun _ h => nomatch h) dX0_at_17
def gbit (k : Nat) : Int64 := lN (2 ^ k)
def gEx (eb : Int64) (k : Nat) : Bool := !decide (eb &&& gbit k = 0)
set_option maxHeartbeats 4000000 in
set_option maxRecDepth 100000 in
theorem c_bitOf (l : Launch) (E : GE) (k : Nat) (hk : k < 64) : Met l yX0_bitOf wsX0_bitOf { frames := 0, cells := 0, slots := 0, locals := 0 } (va_Pc [.int (nI k)] (gB E [])) (vp_Sl (fun r => r = gbit k)) 0 0 (fun _ => False) := by
  refine w_met (cc := cX0_bitOf) (maxL := 1) (ret := some .long) (by decide) rfl (Nat.le_of_ble_eq_true rfl) ?_
  intro p e s m below meth c ls S hr hlocks hname hB hl
  obtain ⟨hx, hb, hml, hown, hts⟩ := id S
  have hl : lv_has ls 1 [(0, .int (nI k))] := hl
  refine lv_lconst (v := 1) hx hb dX0_bitOf_0 (by decide) ?_
  refine lv_iload_n hx hb dX0_bitOf_1 rfl (lv_at hl 0 rfl) ?_
  refine lv_lshl (v := gbit k) hx hb dX0_bitOf_2 ((wb_shl 1 hk).trans (by rw [Nat.one_mul]; rfl)) ?_
  exact W.lret hx hb hr (fun t ht hW => ⟨_, rfl, rfl, ht⟩) (fun _ h => nomatch h) dX0_bitOf_3
theorem hinX0_holdsExam : ∀ w ∈ wsX00, w ∈ wsX0_holdsExam := fun w h => List.mem_cons_of_mem _ (List.mem_append_right _ h)
set_option maxHeartbeats 4000000 in
set_option maxRecDepth 100000 in
theorem c_holdsExam (l : Launch) (E : GE) (a : Nat → Nat) (σ : GS) (k : Nat) (hk : k < 64) : Met l yX0_holdsExam wsX0_holdsExam { frames := 1, cells := 0, slots := 0, locals := 20 } (va_Pc [.ref (a 0), .int (nI k)] (gB E (gW E a σ))) (vp_Si (fun r => r = b2i (gEx (ge σ) k))) 0 0 (fun _ => False) := by
  refine w_met (cc := cX0_holdsExam) (maxL := 2) (ret := some .boolean) (by decide) rfl (Nat.le_of_ble_eq_true rfl) ?_
  intro p e s m below meth c ls S hr hlocks hname hB hl
  obtain ⟨hP, hK⟩ := hB
  obtain ⟨hx, hb, hml, hown, hts⟩ := id S
  have hl : lv_has ls 2 [(0, .ref (a 0)), (1, .int (nI k))] := hl
  refine lv_aload_n hx hb dX0_holdsExam_0 rfl (lv_at hl 0 rfl) ?_
  refine va_get (D := E.1) (ci := 0) (v := .long (ge σ)) (C := RX0) (T := TX0) (N := 18) hx hb hts hinX0_holdsExam hown hK hP 0 rfl rfl 4 (by decide) (hts (.fieldLink RX0 64 "ExamGarden" "examBits" "J") (by decide +kernel)) (fun _ h9 => h9) rfl dX0_holdsExam_1 ?_
  refine lv_iload_n hx hb dX0_holdsExam_4 rfl (lv_at hl 1 rfl) ?_
  refine g_sl (As := [.int (nI k)]) (rest := [.long (ge σ)]) S (c_bitOf l E k hk) (va_cwS 1 hts gX0_holdsExam_X0_bitOf rfl rfl rfl (by decide +kernel) ⟨Nat.le_of_ble_eq_true rfl, Nat.le_of_ble_eq_true rfl⟩) hK (hP.sub [] rfl) rfl hl.1 rfl (Nat.le_of_ble_eq_true rfl) ⟨Nat.zero_le _, Nat.zero_le _⟩ dX0_holdsExam_5 ?_
  refine lv_land hx hb dX0_holdsExam_8 ?_
  refine lv_lconst (v := 0) hx hb dX0_holdsExam_9 (by decide) ?_
  refine W.lcmp hx hb dX0_holdsExam_10 ?_
  refine lv_if_eq (tgt := 18) hx hb dX0_holdsExam_11 (by decide) (fun c1 => ?_) (fun c1 => ?_)
  · refine lv_iconst (v := 0) hx hb dX0_holdsExam_18 (by decide) ?_
    exact W.zret hx hb hr rfl (fun t ht hW => ⟨_, rfl, by rw [gEx, decide_eq_true ((lg_cmp_eq _ _).mp c1)]; rfl, ht⟩) (fun _ h => nomatch h) dX0_holdsExam_19
  · refine lv_iconst (v := 1) hx hb dX0_holdsExam_14 (by decide) ?_
    refine lv_goto (tgt := 19) hx hb dX0_holdsExam_15 (by decide) ?_
    exact W.zret hx hb hr rfl (fun t ht hW => ⟨_, rfl, by rw [gEx, decide_eq_false (fun h => c1 ((lg_cmp_eq _ _).mpr h))]; rfl, ht⟩) (fun _ h => nomatch h) dX0_holdsExam_19
end

section
-- ===== PART A: goes FIRST, ahead of the names: the tables' words, and 'selects' of the private methods out of them =====
/-- a private method of a class that the tables say can be made, by its rows of tables_1 -/
def lw_okq (q : MethodName × Nat) : Prop := (q.1.cls ≠ "java/lang/invoke/MethodHandle" ∧ q.1.cls ≠ "java/lang/invoke/VarHandle") ∧ Cond.instantiable q.1.cls q.2 ∈ tables_1 ∧ Cond.privateMethod q.1 ∈ tables_1 ∧ Cond.instanceMethod q.1 ∈ tables_1
theorem lw_p0 : lw_okq (⟨"ExamGarden", "holdsExam", "(I)Z"⟩, 18) := ⟨⟨by decide +kernel, by decide +kernel⟩, List.mem_of_getElem? (i := 12) (by decide +kernel), List.mem_of_getElem? (i := 106) (by decide +kernel), List.mem_of_getElem? (i := 107) (by decide +kernel)⟩
theorem lw_p1 : lw_okq (⟨"ExamGarden", "smallerRisk", "(I)I"⟩, 18) := ⟨⟨by decide +kernel, by decide +kernel⟩, List.mem_of_getElem? (i := 12) (by decide +kernel), List.mem_of_getElem? (i := 117) (by decide +kernel), List.mem_of_getElem? (i := 118) (by decide +kernel)⟩
theorem lw_p2 : lw_okq (⟨"ExamGarden", "riskOfPath", "(IZ)I"⟩, 18) := ⟨⟨by decide +kernel, by decide +kernel⟩, List.mem_of_getElem? (i := 12) (by decide +kernel), List.mem_of_getElem? (i := 121) (by decide +kernel), List.mem_of_getElem? (i := 122) (by decide +kernel)⟩
theorem lw_p3 : lw_okq (⟨"ExamGarden", "pathFrom", "(IZ)I"⟩, 18) := ⟨⟨by decide +kernel, by decide +kernel⟩, List.mem_of_getElem? (i := 12) (by decide +kernel), List.mem_of_getElem? (i := 125) (by decide +kernel), List.mem_of_getElem? (i := 126) (by decide +kernel)⟩
theorem lw_p4 : lw_okq (⟨"ExamGarden", "hasGrade", "(I)Z"⟩, 18) := ⟨⟨by decide +kernel, by decide +kernel⟩, List.mem_of_getElem? (i := 12) (by decide +kernel), List.mem_of_getElem? (i := 139) (by decide +kernel), List.mem_of_getElem? (i := 140) (by decide +kernel)⟩
theorem lw_p5 : lw_okq (⟨"ExamGarden", "regretOfAll", "(I)I"⟩, 18) := ⟨⟨by decide +kernel, by decide +kernel⟩, List.mem_of_getElem? (i := 12) (by decide +kernel), List.mem_of_getElem? (i := 143) (by decide +kernel), List.mem_of_getElem? (i := 144) (by decide +kernel)⟩
theorem lw_p6 : lw_okq (⟨"ExamGarden", "regretOfStep", "(II)I"⟩, 18) := ⟨⟨by decide +kernel, by decide +kernel⟩, List.mem_of_getElem? (i := 12) (by decide +kernel), List.mem_of_getElem? (i := 147) (by decide +kernel), List.mem_of_getElem? (i := 148) (by decide +kernel)⟩
theorem lw_p7 : lw_okq (⟨"ExamGarden", "passedFork", "(II)I"⟩, 18) := ⟨⟨by decide +kernel, by decide +kernel⟩, List.mem_of_getElem? (i := 12) (by decide +kernel), List.mem_of_getElem? (i := 151) (by decide +kernel), List.mem_of_getElem? (i := 152) (by decide +kernel)⟩
theorem lw_p8 : lw_okq (⟨"ExamGarden", "mixPlace", "(JI)J"⟩, 18) := ⟨⟨by decide +kernel, by decide +kernel⟩, List.mem_of_getElem? (i := 12) (by decide +kernel), List.mem_of_getElem? (i := 175) (by decide +kernel), List.mem_of_getElem? (i := 176) (by decide +kernel)⟩
theorem lw_p9 : lw_okq (⟨"ExamGarden", "requirePlace", "(I)V"⟩, 18) := ⟨⟨by decide +kernel, by decide +kernel⟩, List.mem_of_getElem? (i := 12) (by decide +kernel), List.mem_of_getElem? (i := 183) (by decide +kernel), List.mem_of_getElem? (i := 184) (by decide +kernel)⟩
theorem lw_p10 : lw_okq (⟨"java/lang/Throwable", "fillInStackTrace", "(I)Ljava/lang/Throwable;"⟩, 6) := ⟨⟨by decide +kernel, by decide +kernel⟩, List.mem_of_getElem? (i := 225) (by decide +kernel), List.mem_of_getElem? (i := 223) (by decide +kernel), List.mem_of_getElem? (i := 224) (by decide +kernel)⟩
theorem lw_p11 : lw_okq (⟨"ExamGarden", "plansRight", "(I)Z"⟩, 18) := ⟨⟨by decide +kernel, by decide +kernel⟩, List.mem_of_getElem? (i := 12) (by decide +kernel), List.mem_of_getElem? (i := 274) (by decide +kernel), List.mem_of_getElem? (i := 275) (by decide +kernel)⟩
theorem lw_p12 : lw_okq (⟨"ExamGarden", "requireExam", "(I)V"⟩, 18) := ⟨⟨by decide +kernel, by decide +kernel⟩, List.mem_of_getElem? (i := 12) (by decide +kernel), List.mem_of_getElem? (i := 282) (by decide +kernel), List.mem_of_getElem? (i := 283) (by decide +kernel)⟩
theorem lw_p13 : lw_okq (⟨"ExamGarden", "requireFork", "(I)V"⟩, 18) := ⟨⟨by decide +kernel, by decide +kernel⟩, List.mem_of_getElem? (i := 12) (by decide +kernel), List.mem_of_getElem? (i := 291) (by decide +kernel), List.mem_of_getElem? (i := 292) (by decide +kernel)⟩
theorem lw_p14 : lw_okq (⟨"ExamGarden", "requireStudent", "(I)V"⟩, 18) := ⟨⟨by decide +kernel, by decide +kernel⟩, List.mem_of_getElem? (i := 12) (by decide +kernel), List.mem_of_getElem? (i := 312) (by decide +kernel), List.mem_of_getElem? (i := 313) (by decide +kernel)⟩
theorem lw_p15 : lw_okq (⟨"ExamGarden", "requireRoom", "()V"⟩, 18) := ⟨⟨by decide +kernel, by decide +kernel⟩, List.mem_of_getElem? (i := 12) (by decide +kernel), List.mem_of_getElem? (i := 346) (by decide +kernel), List.mem_of_getElem? (i := 347) (by decide +kernel)⟩
def lw_privs_1 : List (MethodName × Nat) := [(⟨"ExamGarden", "holdsExam", "(I)Z"⟩, 18), (⟨"ExamGarden", "smallerRisk", "(I)I"⟩, 18), (⟨"ExamGarden", "riskOfPath", "(IZ)I"⟩, 18), (⟨"ExamGarden", "pathFrom", "(IZ)I"⟩, 18), (⟨"ExamGarden", "hasGrade", "(I)Z"⟩, 18), (⟨"ExamGarden", "regretOfAll", "(I)I"⟩, 18), (⟨"ExamGarden", "regretOfStep", "(II)I"⟩, 18), (⟨"ExamGarden", "passedFork", "(II)I"⟩, 18), (⟨"ExamGarden", "mixPlace", "(JI)J"⟩, 18), (⟨"ExamGarden", "requirePlace", "(I)V"⟩, 18), (⟨"java/lang/Throwable", "fillInStackTrace", "(I)Ljava/lang/Throwable;"⟩, 6), (⟨"ExamGarden", "plansRight", "(I)Z"⟩, 18), (⟨"ExamGarden", "requireExam", "(I)V"⟩, 18), (⟨"ExamGarden", "requireFork", "(I)V"⟩, 18), (⟨"ExamGarden", "requireStudent", "(I)V"⟩, 18), (⟨"ExamGarden", "requireRoom", "()V"⟩, 18)]
theorem lw_r1 : ∀ q ∈ lw_privs_1, lw_okq q := List.forall_mem_cons.mpr ⟨lw_p0, List.forall_mem_cons.mpr ⟨lw_p1, List.forall_mem_cons.mpr ⟨lw_p2, List.forall_mem_cons.mpr ⟨lw_p3, List.forall_mem_cons.mpr ⟨lw_p4, List.forall_mem_cons.mpr ⟨lw_p5, List.forall_mem_cons.mpr ⟨lw_p6, List.forall_mem_cons.mpr ⟨lw_p7, List.forall_mem_cons.mpr ⟨lw_p8, List.forall_mem_cons.mpr ⟨lw_p9, List.forall_mem_cons.mpr ⟨lw_p10, List.forall_mem_cons.mpr ⟨lw_p11, List.forall_mem_cons.mpr ⟨lw_p12, List.forall_mem_cons.mpr ⟨lw_p13, List.forall_mem_cons.mpr ⟨lw_p14, List.forall_mem_cons.mpr ⟨lw_p15, fun _ h => absurd h List.not_mem_nil⟩⟩⟩⟩⟩⟩⟩⟩⟩⟩⟩⟩⟩⟩⟩⟩
theorem lw_p16 : lw_okq (⟨"ExamGarden", "settleExam", "(I)V"⟩, 18) := ⟨⟨by decide +kernel, by decide +kernel⟩, List.mem_of_getElem? (i := 12) (by decide +kernel), List.mem_of_getElem? (i := 372) (by decide +kernel), List.mem_of_getElem? (i := 373) (by decide +kernel)⟩
theorem lw_p17 : lw_okq (⟨"ExamGarden", "settleFork", "(I)V"⟩, 18) := ⟨⟨by decide +kernel, by decide +kernel⟩, List.mem_of_getElem? (i := 12) (by decide +kernel), List.mem_of_getElem? (i := 388) (by decide +kernel), List.mem_of_getElem? (i := 389) (by decide +kernel)⟩
theorem lw_p18 : lw_okq (⟨"ExamGarden", "settleGreater", "([II)V"⟩, 18) := ⟨⟨by decide +kernel, by decide +kernel⟩, List.mem_of_getElem? (i := 12) (by decide +kernel), List.mem_of_getElem? (i := 392) (by decide +kernel), List.mem_of_getElem? (i := 393) (by decide +kernel)⟩
theorem lw_p19 : lw_okq (⟨"ExamGarden", "settleForksAfter", "(I)V"⟩, 18) := ⟨⟨by decide +kernel, by decide +kernel⟩, List.mem_of_getElem? (i := 12) (by decide +kernel), List.mem_of_getElem? (i := 405) (by decide +kernel), List.mem_of_getElem? (i := 406) (by decide +kernel)⟩
theorem lw_p20 : lw_okq (⟨"ExamGarden", "walk", "(IZ)V"⟩, 18) := ⟨⟨by decide +kernel, by decide +kernel⟩, List.mem_of_getElem? (i := 12) (by decide +kernel), List.mem_of_getElem? (i := 432) (by decide +kernel), List.mem_of_getElem? (i := 433) (by decide +kernel)⟩
theorem lw_p21 : lw_okq (⟨"ExamGarden", "requireGraded", "(I)V"⟩, 18) := ⟨⟨by decide +kernel, by decide +kernel⟩, List.mem_of_getElem? (i := 12) (by decide +kernel), List.mem_of_getElem? (i := 534) (by decide +kernel), List.mem_of_getElem? (i := 535) (by decide +kernel)⟩
theorem lw_p22 : lw_okq (⟨"ExamGardenModel", "no", "(I)I"⟩, 13) := ⟨⟨by decide +kernel, by decide +kernel⟩, List.mem_of_getElem? (i := 546) (by decide +kernel), List.mem_of_getElem? (i := 601) (by decide +kernel), List.mem_of_getElem? (i := 602) (by decide +kernel)⟩
theorem lw_p23 : lw_okq (⟨"ExamGardenModel", "isPlace", "(I)Z"⟩, 13) := ⟨⟨by decide +kernel, by decide +kernel⟩, List.mem_of_getElem? (i := 546) (by decide +kernel), List.mem_of_getElem? (i := 609) (by decide +kernel), List.mem_of_getElem? (i := 610) (by decide +kernel)⟩
theorem lw_p24 : lw_okq (⟨"ExamGardenModel", "isExamAt", "(I)Z"⟩, 13) := ⟨⟨by decide +kernel, by decide +kernel⟩, List.mem_of_getElem? (i := 546) (by decide +kernel), List.mem_of_getElem? (i := 620) (by decide +kernel), List.mem_of_getElem? (i := 621) (by decide +kernel)⟩
theorem lw_p25 : lw_okq (⟨"ExamGardenModel", "gradedNow", "()I"⟩, 13) := ⟨⟨by decide +kernel, by decide +kernel⟩, List.mem_of_getElem? (i := 546) (by decide +kernel), List.mem_of_getElem? (i := 624) (by decide +kernel), List.mem_of_getElem? (i := 625) (by decide +kernel)⟩
theorem lw_p26 : lw_okq (⟨"ExamGardenModel", "isForkAt", "(I)Z"⟩, 13) := ⟨⟨by decide +kernel, by decide +kernel⟩, List.mem_of_getElem? (i := 546) (by decide +kernel), List.mem_of_getElem? (i := 632) (by decide +kernel), List.mem_of_getElem? (i := 633) (by decide +kernel)⟩
theorem lw_p27 : lw_okq (⟨"ExamGardenModel", "isStudent", "(I)Z"⟩, 13) := ⟨⟨by decide +kernel, by decide +kernel⟩, List.mem_of_getElem? (i := 546) (by decide +kernel), List.mem_of_getElem? (i := 644) (by decide +kernel), List.mem_of_getElem? (i := 645) (by decide +kernel)⟩
theorem lw_p28 : lw_okq (⟨"ExamGardenModel", "go", "(II)V"⟩, 13) := ⟨⟨by decide +kernel, by decide +kernel⟩, List.mem_of_getElem? (i := 546) (by decide +kernel), List.mem_of_getElem? (i := 648) (by decide +kernel), List.mem_of_getElem? (i := 649) (by decide +kernel)⟩
theorem lw_p29 : lw_okq (⟨"ExamGardenModel", "table", "()V"⟩, 13) := ⟨⟨by decide +kernel, by decide +kernel⟩, List.mem_of_getElem? (i := 546) (by decide +kernel), List.mem_of_getElem? (i := 660) (by decide +kernel), List.mem_of_getElem? (i := 661) (by decide +kernel)⟩
theorem lw_p30 : lw_okq (⟨"ExamGardenModel", "planned", "(I)I"⟩, 13) := ⟨⟨by decide +kernel, by decide +kernel⟩, List.mem_of_getElem? (i := 546) (by decide +kernel), List.mem_of_getElem? (i := 665) (by decide +kernel), List.mem_of_getElem? (i := 666) (by decide +kernel)⟩
theorem lw_p31 : lw_okq (⟨"ExamGardenModel", "turnsRight", "(I)Z"⟩, 13) := ⟨⟨by decide +kernel, by decide +kernel⟩, List.mem_of_getElem? (i := 546) (by decide +kernel), List.mem_of_getElem? (i := 669) (by decide +kernel), List.mem_of_getElem? (i := 670) (by decide +kernel)⟩
def lw_privs_2 : List (MethodName × Nat) := [(⟨"ExamGarden", "settleExam", "(I)V"⟩, 18), (⟨"ExamGarden", "settleFork", "(I)V"⟩, 18), (⟨"ExamGarden", "settleGreater", "([II)V"⟩, 18), (⟨"ExamGarden", "settleForksAfter", "(I)V"⟩, 18), (⟨"ExamGarden", "walk", "(IZ)V"⟩, 18), (⟨"ExamGarden", "requireGraded", "(I)V"⟩, 18), (⟨"ExamGardenModel", "no", "(I)I"⟩, 13), (⟨"ExamGardenModel", "isPlace", "(I)Z"⟩, 13), (⟨"ExamGardenModel", "isExamAt", "(I)Z"⟩, 13), (⟨"ExamGardenModel", "gradedNow", "()I"⟩, 13), (⟨"ExamGardenModel", "isForkAt", "(I)Z"⟩, 13), (⟨"ExamGardenModel", "isStudent", "(I)Z"⟩, 13), (⟨"ExamGardenModel", "go", "(II)V"⟩, 13), (⟨"ExamGardenModel", "table", "()V"⟩, 13), (⟨"ExamGardenModel", "planned", "(I)I"⟩, 13), (⟨"ExamGardenModel", "turnsRight", "(I)Z"⟩, 13)]
theorem lw_r2 : ∀ q ∈ lw_privs_2, lw_okq q := List.forall_mem_cons.mpr ⟨lw_p16, List.forall_mem_cons.mpr ⟨lw_p17, List.forall_mem_cons.mpr ⟨lw_p18, List.forall_mem_cons.mpr ⟨lw_p19, List.forall_mem_cons.mpr ⟨lw_p20, List.forall_mem_cons.mpr ⟨lw_p21, List.forall_mem_cons.mpr ⟨lw_p22, List.forall_mem_cons.mpr ⟨lw_p23, List.forall_mem_cons.mpr ⟨lw_p24, List.forall_mem_cons.mpr ⟨lw_p25, List.forall_mem_cons.mpr ⟨lw_p26, List.forall_mem_cons.mpr ⟨lw_p27, List.forall_mem_cons.mpr ⟨lw_p28, List.forall_mem_cons.mpr ⟨lw_p29, List.forall_mem_cons.mpr ⟨lw_p30, List.forall_mem_cons.mpr ⟨lw_p31, fun _ h => absurd h List.not_mem_nil⟩⟩⟩⟩⟩⟩⟩⟩⟩⟩⟩⟩⟩⟩⟩⟩
theorem lw_p32 : lw_okq (⟨"ExamGardenModel", "riskOf", "(IZ)I"⟩, 13) := ⟨⟨by decide +kernel, by decide +kernel⟩, List.mem_of_getElem? (i := 546) (by decide +kernel), List.mem_of_getElem? (i := 673) (by decide +kernel), List.mem_of_getElem? (i := 674) (by decide +kernel)⟩
theorem lw_p33 : lw_okq (⟨"ExamGardenModel", "ok", "(I)I"⟩, 13) := ⟨⟨by decide +kernel, by decide +kernel⟩, List.mem_of_getElem? (i := 546) (by decide +kernel), List.mem_of_getElem? (i := 681) (by decide +kernel), List.mem_of_getElem? (i := 682) (by decide +kernel)⟩
theorem lw_p34 : lw_okq (⟨"ExamGardenModel", "examsNow", "()I"⟩, 13) := ⟨⟨by decide +kernel, by decide +kernel⟩, List.mem_of_getElem? (i := 546) (by decide +kernel), List.mem_of_getElem? (i := 689) (by decide +kernel), List.mem_of_getElem? (i := 690) (by decide +kernel)⟩
theorem lw_p35 : lw_okq (⟨"ExamGardenModel", "atEnds", "()I"⟩, 13) := ⟨⟨by decide +kernel, by decide +kernel⟩, List.mem_of_getElem? (i := 546) (by decide +kernel), List.mem_of_getElem? (i := 705) (by decide +kernel), List.mem_of_getElem? (i := 706) (by decide +kernel)⟩
theorem lw_p36 : lw_okq (⟨"ExamGardenModel", "isNot", "(I)Z"⟩, 13) := ⟨⟨by decide +kernel, by decide +kernel⟩, List.mem_of_getElem? (i := 546) (by decide +kernel), List.mem_of_getElem? (i := 713) (by decide +kernel), List.mem_of_getElem? (i := 714) (by decide +kernel)⟩
theorem lw_p37 : lw_okq (⟨"ExamGardenModel", "ofFork", "(I[I)I"⟩, 13) := ⟨⟨by decide +kernel, by decide +kernel⟩, List.mem_of_getElem? (i := 546) (by decide +kernel), List.mem_of_getElem? (i := 729) (by decide +kernel), List.mem_of_getElem? (i := 730) (by decide +kernel)⟩
theorem lw_p38 : lw_okq (⟨"ExamGardenModel", "ofStudent", "(I[I)I"⟩, 13) := ⟨⟨by decide +kernel, by decide +kernel⟩, List.mem_of_getElem? (i := 546) (by decide +kernel), List.mem_of_getElem? (i := 745) (by decide +kernel), List.mem_of_getElem? (i := 746) (by decide +kernel)⟩
theorem lw_p39 : lw_okq (⟨"ExamGardenModel", "ofPlace", "(I[I)I"⟩, 13) := ⟨⟨by decide +kernel, by decide +kernel⟩, List.mem_of_getElem? (i := 546) (by decide +kernel), List.mem_of_getElem? (i := 757) (by decide +kernel), List.mem_of_getElem? (i := 758) (by decide +kernel)⟩
theorem lw_p40 : lw_okq (⟨"ExamGardenModel", "has", "(II)Z"⟩, 13) := ⟨⟨by decide +kernel, by decide +kernel⟩, List.mem_of_getElem? (i := 546) (by decide +kernel), List.mem_of_getElem? (i := 769) (by decide +kernel), List.mem_of_getElem? (i := 770) (by decide +kernel)⟩
theorem lw_p41 : lw_okq (⟨"ExamGardenModel", "examsOf", "(I)I"⟩, 13) := ⟨⟨by decide +kernel, by decide +kernel⟩, List.mem_of_getElem? (i := 546) (by decide +kernel), List.mem_of_getElem? (i := 777) (by decide +kernel), List.mem_of_getElem? (i := 778) (by decide +kernel)⟩
theorem lw_p42 : lw_okq (⟨"ExamGardenModel", "leads", "(I)I"⟩, 13) := ⟨⟨by decide +kernel, by decide +kernel⟩, List.mem_of_getElem? (i := 546) (by decide +kernel), List.mem_of_getElem? (i := 793) (by decide +kernel), List.mem_of_getElem? (i := 794) (by decide +kernel)⟩
theorem lw_p43 : lw_okq (⟨"ExamGardenModel", "riskiest", "()I"⟩, 13) := ⟨⟨by decide +kernel, by decide +kernel⟩, List.mem_of_getElem? (i := 546) (by decide +kernel), List.mem_of_getElem? (i := 801) (by decide +kernel), List.mem_of_getElem? (i := 802) (by decide +kernel)⟩
theorem lw_p44 : lw_okq (⟨"ExamGardenModel", "behind", "(I)I"⟩, 13) := ⟨⟨by decide +kernel, by decide +kernel⟩, List.mem_of_getElem? (i := 546) (by decide +kernel), List.mem_of_getElem? (i := 810) (by decide +kernel), List.mem_of_getElem? (i := 811) (by decide +kernel)⟩
theorem lw_p45 : lw_okq (⟨"ExamGardenModel", "isKnown", "(I)Z"⟩, 13) := ⟨⟨by decide +kernel, by decide +kernel⟩, List.mem_of_getElem? (i := 546) (by decide +kernel), List.mem_of_getElem? (i := 818) (by decide +kernel), List.mem_of_getElem? (i := 819) (by decide +kernel)⟩
theorem lw_p46 : lw_okq (⟨"ExamGardenModel", "regrets", "(I)I"⟩, 13) := ⟨⟨by decide +kernel, by decide +kernel⟩, List.mem_of_getElem? (i := 546) (by decide +kernel), List.mem_of_getElem? (i := 822) (by decide +kernel), List.mem_of_getElem? (i := 823) (by decide +kernel)⟩
theorem lw_p47 : lw_okq (⟨"ExamGardenModel", "regret", "(II)I"⟩, 13) := ⟨⟨by decide +kernel, by decide +kernel⟩, List.mem_of_getElem? (i := 546) (by decide +kernel), List.mem_of_getElem? (i := 826) (by decide +kernel), List.mem_of_getElem? (i := 827) (by decide +kernel)⟩
def lw_privs_3 : List (MethodName × Nat) := [(⟨"ExamGardenModel", "riskOf", "(IZ)I"⟩, 13), (⟨"ExamGardenModel", "ok", "(I)I"⟩, 13), (⟨"ExamGardenModel", "examsNow", "()I"⟩, 13), (⟨"ExamGardenModel", "atEnds", "()I"⟩, 13), (⟨"ExamGardenModel", "isNot", "(I)Z"⟩, 13), (⟨"ExamGardenModel", "ofFork", "(I[I)I"⟩, 13), (⟨"ExamGardenModel", "ofStudent", "(I[I)I"⟩, 13), (⟨"ExamGardenModel", "ofPlace", "(I[I)I"⟩, 13), (⟨"ExamGardenModel", "has", "(II)Z"⟩, 13), (⟨"ExamGardenModel", "examsOf", "(I)I"⟩, 13), (⟨"ExamGardenModel", "leads", "(I)I"⟩, 13), (⟨"ExamGardenModel", "riskiest", "()I"⟩, 13), (⟨"ExamGardenModel", "behind", "(I)I"⟩, 13), (⟨"ExamGardenModel", "isKnown", "(I)Z"⟩, 13), (⟨"ExamGardenModel", "regrets", "(I)I"⟩, 13), (⟨"ExamGardenModel", "regret", "(II)I"⟩, 13)]
theorem lw_r3 : ∀ q ∈ lw_privs_3, lw_okq q := List.forall_mem_cons.mpr ⟨lw_p32, List.forall_mem_cons.mpr ⟨lw_p33, List.forall_mem_cons.mpr ⟨lw_p34, List.forall_mem_cons.mpr ⟨lw_p35, List.forall_mem_cons.mpr ⟨lw_p36, List.forall_mem_cons.mpr ⟨lw_p37, List.forall_mem_cons.mpr ⟨lw_p38, List.forall_mem_cons.mpr ⟨lw_p39, List.forall_mem_cons.mpr ⟨lw_p40, List.forall_mem_cons.mpr ⟨lw_p41, List.forall_mem_cons.mpr ⟨lw_p42, List.forall_mem_cons.mpr ⟨lw_p43, List.forall_mem_cons.mpr ⟨lw_p44, List.forall_mem_cons.mpr ⟨lw_p45, List.forall_mem_cons.mpr ⟨lw_p46, List.forall_mem_cons.mpr ⟨lw_p47, fun _ h => absurd h List.not_mem_nil⟩⟩⟩⟩⟩⟩⟩⟩⟩⟩⟩⟩⟩⟩⟩⟩
theorem lw_p48 : lw_okq (⟨"ExamGardenModel", "worst", "(I)I"⟩, 13) := ⟨⟨by decide +kernel, by decide +kernel⟩, List.mem_of_getElem? (i := 546) (by decide +kernel), List.mem_of_getElem? (i := 834) (by decide +kernel), List.mem_of_getElem? (i := 835) (by decide +kernel)⟩
theorem lw_p49 : lw_okq (⟨"ExamGardenModel", "allRegrets", "()I"⟩, 13) := ⟨⟨by decide +kernel, by decide +kernel⟩, List.mem_of_getElem? (i := 546) (by decide +kernel), List.mem_of_getElem? (i := 842) (by decide +kernel), List.mem_of_getElem? (i := 843) (by decide +kernel)⟩
def lw_privs_4 : List (MethodName × Nat) := [(⟨"ExamGardenModel", "worst", "(I)I"⟩, 13), (⟨"ExamGardenModel", "allRegrets", "()I"⟩, 13)]
theorem lw_r4 : ∀ q ∈ lw_privs_4, lw_okq q := List.forall_mem_cons.mpr ⟨lw_p48, List.forall_mem_cons.mpr ⟨lw_p49, fun _ h => absurd h List.not_mem_nil⟩⟩
def lw_privs : List (MethodName × Nat) := lw_privs_1 ++ (lw_privs_2 ++ (lw_privs_3 ++ (lw_privs_4)))
def lw_tbl : List Cond := k2_sels lw_privs ++ tables_1
theorem lw_privs_ok : ∀ q ∈ lw_privs, lw_okq q := by
  show ∀ q ∈ lw_privs_1 ++ (lw_privs_2 ++ (lw_privs_3 ++ (lw_privs_4))), lw_okq q
  exact List.forall_mem_append.mpr ⟨lw_r1, List.forall_mem_append.mpr ⟨lw_r2, List.forall_mem_append.mpr ⟨lw_r3, lw_r4⟩⟩⟩
/-- the streams that the claim lets the run draw from -/
abbrev lw_cs : List Choice := [Jvm.Choice.named "NaN.bits"]
theorem lw_bits : nanBits ∈ lw_cs := by first | decide | exact List.mem_cons_self | simp [lw_cs, nanBits]
/-! ===== BEGIN words of one list among another's, by their places ===== -/
theorem goodIn_r {big : List Cond} (ws : List Cond) (ps : List Nat) (hp : ws = ps.filterMap (fun i => big[i]?)) (h : ws.all goodWord = true) : GoodIn big ws := by
  intro w hw
  have h1 := List.all_eq_true.mp h w hw
  rw [hp] at hw
  obtain ⟨i, -, hi⟩ := List.mem_filterMap.mp hw
  have hm : w ∈ big := by first | exact List.mem_of_getElem? hi | exact List.getElem?_mem hi
  exact ⟨hm, good_of_word h1⟩
theorem goodIn_app {big a b : List Cond} (ha : GoodIn big a) (hb : GoodIn big b) : GoodIn big (a ++ b) := fun w h => (List.mem_append.mp h).elim (ha w) (hb w)
theorem goodIn_ca {big a b : List Cond} {c : Cond} (ha : GoodIn big (c :: a)) (hb : GoodIn big b) : GoodIn big (c :: (a ++ b)) := fun w h => (List.mem_cons.mp h).elim (fun e => ha w (List.mem_cons.mpr (Or.inl e))) (fun h => (List.mem_append.mp h).elim (fun h => ha w (List.mem_cons.mpr (Or.inr h))) (hb w))
theorem goodIn_sub {big ws : List Cond} (hm : ∀ w ∈ ws, w ∈ big) (h : ws.all goodWord = true) : GoodIn big ws := fun w hw => ⟨hm w hw, good_of_word (List.all_eq_true.mp h w hw)⟩
/-! ===== END ===== -/

/-! ===== BEGIN exceptions that leave a method, and their catching by the caller (launches without stack traces) ===== -/
section VXA
/-! The laws vx_back, vx_callV, vx_callS, vx_callSW, vx_throw0, vx_throwS follow proofs of the library, with one case more: JvmDerived/Free/Laws.lean (Back.of_free), Shelf42/LK1.lean (callV, callS), Shelf/KitTraced.lean (throwNew0V, throwNewS). -/
/-- where a method has thrown q: the class by its name, the cell, what was written, the world -/
def vx_T (XC : String → State → State → Prop) (st : State) (q : Addr) (t : State) (mc ms : Nat) (free : Addr → Prop) : Prop :=
  ∃ (E : String) (ce : Cell) (L : List Loc), XC E st t ∧ t.heap[q]? = some ce ∧ ce.vm = .none ∧ st.vm.findClass E = some ce.cls ∧ st.WarmedH t.vm ∧ st.sameButNew ({ t with vm := st.vm } : State) L mc ms ∧ ∀ z ∈ L, free z.base
def vx_Q (Qc : Array Value → State → Outcome → State → Prop) (XC : String → State → State → Prop) (mc ms : Nat) (free : Addr → Prop) : Array Value → State → Outcome → State → Prop := fun a st o t =>
  (Qc a st o t ∧ ∃ L, FrameEnd st o t L mc ms ∧ ∀ q ∈ L, free q.base) ∨ ∃ q, o = .threw q ∧ vx_T XC st q t mc ms free
/-- a callee that returns or throws -/
def vx_Met (l : Launch) (y : MethodName) (ws : List Cond) (rm : Room) (Pc : Array Value → State → Prop) (Qc : Array Value → State → Outcome → State → Prop) (XC : String → State → State → Prop) (mc ms : Nat) (free : Addr → Prop) : Prop :=
  MetFree l y (headSpec ws rm) Pc (fun _ _ _ _ _ => True) (vx_Q Qc XC mc ms free)
def vx_Post (XC : String → State → State → Prop) (mc ms : Nat) (free : Addr → Prop) : Pt → Array Value → Addr → Pt → Prop := fun A a q B =>
  ∃ (g : JFrame) (mk : MethodId) (t : State) (L : List Loc) (E : String) (ce : Cell), B.U.heap = t.heap ∧ B.U.vm = t.vm ∧ XC E (A.U.calling g mk a) t ∧ t.heap[q]? = some ce ∧ ce.vm = .none ∧ A.U.vm.findClass E = some ce.cls ∧ B.locs = A.locs ++ L ∧ (∀ z ∈ L, free z.base) ∧ B.cells = A.cells + mc ∧ B.slots = A.slots + ms
def vx_Back (l : Launch) (R : Room) (p : Program) (e : Env) (below : List Frame) (s : State) (sargs : Array Value) (y : MethodName) (len W9 : Nat)
    (Pre : Pt → Array Value → Prop) (Post : Pt → Array Value → Option Value → Pt → Prop) (PostX : Pt → Array Value → Addr → Pt → Prop) : Prop :=
  ∀ (m : MethodId) (meth : Method) (c : Code) (A : Pt) (g : JFrame) (ig : Instr) (mk : MethodId) (a : Array Value),
    Stand p l e R s m sargs below meth c A.U A.locs A.cells A.slots → g.method = m → g.locals.size = c.maxLocals → decode c.code g.pc = .ok (ig, len) →
    2 * g.monitorRoom + (g.stack.map fun v => v.category).sum ≤ W9 → A.U.methodNamed? y = some mk → Pre A a →
    (∃ (v : Option Value) (B : Pt), Stand p l e R s m sargs below meth c B.U B.locs B.cells B.slots ∧ Post A a v B ∧
      Steps p.tables e below (doInvoke e (A.U.setTop g) [] mk a).1 (B.U.setTop { g with pc := g.pc + len, stack := v.toList ++ g.stack })) ∨
    (∃ (q : Addr) (B : Pt), Stand p l e R s m sargs below meth c B.U B.locs B.cells B.slots ∧ PostX A a q B ∧
      Steps p.tables e below (doInvoke e (A.U.setTop g) [] mk a).1 ((B.U.setTop g).pushFrame (.throwing q)))
section Payer
variable {l : Launch} {R : Room} {p : Program} {e : Env} {below : List Frame} {s : State} {sargs : Array Value} {y : MethodName} {len W9 : Nat}
theorem vx_back {ws : List Cond} {rm : Room} {Pc : Array Value → State → Prop} {Qc : Array Value → State → Outcome → State → Prop} {XC : String → State → State → Prop} {mc ms : Nat} {free : Addr → Prop} {bytes : ByteArray} {maxL : Nat} {ret : Option FieldType}
    (hM : vx_Met l y ws rm Pc Qc XC mc ms free) (hblind : FrameBlind Pc) (hrc : rm.cells = mc) (hrs : rm.slots = ms)
    (hframes : rm.frames + 1 ≤ R.frames) (hlocals : W9 + (maxL + 11) + rm.locals ≤ R.locals)
    (hws : ∀ w ∈ ws, ∀ a' U, s.WarmedH U.vm → w.before a' U = true) (hcode : Cond.code y bytes maxL ret ∈ ws) (hinit : ∀ a' U, s.WarmedH U.vm → (Cond.initialized y.cls).before a' U = true) :
    vx_Back l R p e below s sargs y len W9 (PreOf R mc ms Pc) (PostOf Qc mc ms free) (vx_Post XC mc ms free) := by
  intro m meth c A g ig mk a X hg hsize hdg hW hn hp
  have h1 : (headSpec ws rm).pre.before a A.U = true := atoms_intro fun w hw => hws w hw _ _ X.warmed
  have h2 : (Cond.code y bytes maxL ret).before a A.U = true := hws _ hcode _ _ X.warmed
  have h3 : (Cond.initialized y.cls).before a A.U = true := hinit _ _ X.warmed
  have h4 : A.cells + (headSpec ws rm).room.cells ≤ R.cells := by rw [show (headSpec ws rm).room.cells = mc from hrc]; exact hp.1
  have h5 : A.slots + (headSpec ws rm).room.slots ≤ R.slots := by rw [show (headSpec ws rm).room.slots = ms from hrs]; exact hp.2.1
  have hPc : Pc a (A.U.calling g mk a) := hblind _ _ _ _ hp.2.2
  obtain ⟨U, Ls, c0, s0⟩ := A
  dsimp only [Pt.U, Pt.locs, Pt.cells, Pt.slots] at h1 h2 h3 h4 h5 X hn hPc ⊢
  obtain ⟨methY, cY, hmY, hcY, -, hlY, -, -, -, -⟩ := Cond.code_spec hn h2
  obtain ⟨kY, hkY, -⟩ := className_of_methodNamed hn
  have hinitY : kY.init = .initialized := Cond.initialized_spec (findClass_of_methodNamed hn) hkY h3
  have h : At U g.method c below := by rw [hg]; exact X.here
  have hlocals9 : W9 + (maxL + 11) + (headSpec ws rm).room.locals ≤ R.locals := hlocals
  have happ : (headSpec ws rm).appliesLoose y e.platform (U.calling g mk a) = true :=
    Spec.appliesLoose_calling (g := g) h hdg hn hkY hinitY
      (X.room_calling (g := g) (R' := (headSpec ws rm).room) hsize hmY hcY hframes (by rw [hlY]; omega) h4 h5) h1
  obtain ⟨mid, hmid⟩ := h.above
  have hfr : (U.setTop g).frames = (.java g :: mid) ++ below := by rw [State.frames_setTop' g h.top, hmid]; rfl
  obtain ⟨o, s₂, hsteps, -, hend, hq⟩ := Steps.callFree hM p X.admits X.cas X.clock (acts := []) hfr happ hPc trivial
  have hq' : vx_Q Qc XC mc ms free a (U.calling g mk a) o s₂ := hq
  rw [State.frames_setTop' g h.top] at hend
  obtain ⟨g₀, hg0⟩ := Option.isSome_iff_exists.mp h.top
  obtain ⟨r, hr⟩ := State.topJava?_eq_some.mp hg0
  have hr' : (({ U with heap := s₂.heap, slotsUsed := s₂.slotsUsed } : State).setVm s₂.vm).frames = .java g₀ :: r := hr
  rcases hq' with ⟨hqc, L, hfe, hL⟩ | ⟨q, rfl, E, ce, L, hx, hce, hcv, hcl, hW₂, hsm, hL⟩
  · obtain ⟨⟨v, rfl⟩, hW₂, e2, q2, q3, q4, q5, q6⟩ := id hfe
    have e3 : s₂ = ({ (U.calling g mk a).setFrames s₂.frames with heap := s₂.heap, slotsUsed := s₂.slotsUsed } : State).setVm s₂.vm := by
      have : s₂ = ({ s₂ with vm := (U.calling g mk a).vm } : State).setVm s₂.vm := rfl
      rw [e2] at this
      exact this
    obtain ⟨c₂, i₂, len₂, hc₂, hd₂, hf₂⟩ := hend
    have hW' : U.WarmedH s₂.vm := hW₂
    have hcc : c₂ = c := by
      have h1 : s₂.code? g.method = U.code? g.method := by
        rw [State.code?_eq, State.code?_eq, hW'.alike.method?]
      exact Option.some.inj (hc₂.symm.trans (h1.trans h.code))
    subst hcc
    have hlen : len₂ = len := by rw [hdg] at hd₂; cases hd₂; rfl
    subst hlen
    have hs₂ : s₂ = (({ U with heap := s₂.heap, slotsUsed := s₂.slotsUsed } : State).setVm s₂.vm).setTop { g with pc := g.pc + len₂, stack := v.toList ++ g.stack } := by
      refine e3.trans ?_
      rw [hf₂, State.calling_eq h.top, State.setFrames_setFrames, State.setTop_of_frames _ hr', hr]
      rfl
    have hsame : U.sameButNew ({ U with heap := s₂.heap, slotsUsed := s₂.slotsUsed } : State) L mc ms := by
      refine ⟨?_, q2, q3, q4, q5, q6⟩
      obtain ⟨t, ht, -⟩ := State.frames_cons hr
      show ({ U with heap := s₂.heap, slotsUsed := s₂.slotsUsed } : State) = { U.setFrames U.frames with heap := s₂.heap, slotsUsed := s₂.slotsUsed }
      rw [State.setFrames_self ht]
    subst hg
    refine Or.inl ⟨v, ⟨(({ U with heap := s₂.heap, slotsUsed := s₂.slotsUsed } : State).setVm s₂.vm), Ls ++ L, c0 + mc, s0 + ms⟩,
      ⟨X.admits, X.cas, X.clock, X.frames, X.room, X.hears, X.method, X.code, (X.here.setHeapUsed s₂.heap s₂.slotsUsed).setVm hW'.alike, X.tail, State.WarmedH.trans X.warmed hW', X.limits, X.bytes, X.same.trans (hsame.setVm s.vm)⟩,
      ⟨g, mk, s₂, L, rfl, rfl, hqc, rfl, hL, rfl, rfl⟩, ?_⟩
    show Steps p.tables e below _ ((({ U with heap := s₂.heap, slotsUsed := s₂.slotsUsed } : State).setVm s₂.vm).setTop { g with pc := g.pc + len₂, stack := v.toList ++ g.stack })
    rw [← hs₂]
    exact hsteps
  · obtain ⟨e2, q2, q3, q4, q5, q6⟩ := id hsm
    have e3 : s₂ = ({ (U.calling g mk a).setFrames s₂.frames with heap := s₂.heap, slotsUsed := s₂.slotsUsed } : State).setVm s₂.vm := by
      have : s₂ = ({ s₂ with vm := (U.calling g mk a).vm } : State).setVm s₂.vm := rfl
      rw [e2] at this
      exact this
    have hf₂ : s₂.frames = .throwing q :: .java g :: U.frames.tail := hend
    have hW' : U.WarmedH s₂.vm := hW₂
    have hs₂ : s₂ = ((({ U with heap := s₂.heap, slotsUsed := s₂.slotsUsed } : State).setVm s₂.vm).setTop g).pushFrame (.throwing q) := by
      refine e3.trans ?_
      rw [hf₂, State.calling_eq h.top, State.setFrames_setFrames, State.pushFrame, State.frames_setTop _ hr', State.setTop_of_frames _ hr', State.setFrames_setFrames, hr]
      rfl
    have hsame : U.sameButNew ({ U with heap := s₂.heap, slotsUsed := s₂.slotsUsed } : State) L mc ms := by
      refine ⟨?_, q2, q3, q4, q5, q6⟩
      obtain ⟨t, ht, -⟩ := State.frames_cons hr
      show ({ U with heap := s₂.heap, slotsUsed := s₂.slotsUsed } : State) = { U.setFrames U.frames with heap := s₂.heap, slotsUsed := s₂.slotsUsed }
      rw [State.setFrames_self ht]
    subst hg
    refine Or.inr ⟨q, ⟨(({ U with heap := s₂.heap, slotsUsed := s₂.slotsUsed } : State).setVm s₂.vm), Ls ++ L, c0 + mc, s0 + ms⟩,
      ⟨X.admits, X.cas, X.clock, X.frames, X.room, X.hears, X.method, X.code, (X.here.setHeapUsed s₂.heap s₂.slotsUsed).setVm hW'.alike, X.tail, State.WarmedH.trans X.warmed hW', X.limits, X.bytes, X.same.trans (hsame.setVm s.vm)⟩,
      ⟨g, mk, s₂, L, E, ce, rfl, rfl, hx, hce, hcv, hcl, rfl, hL, rfl, rfl⟩, ?_⟩
    show Steps p.tables e below _ (((({ U with heap := s₂.heap, slotsUsed := s₂.slotsUsed } : State).setVm s₂.vm).setTop g).pushFrame (.throwing q))
    rw [← hs₂]
    exact hsteps
end Payer
section Calls
variable {p : Program} {l : Launch} {e : Env} {R : Room} {s : State} {m : MethodId} {args : Array Value} {below : List Frame} {meth : Method} {c : Code} {T : State} {locs : List Loc} {cells slots : Nat}
theorem vx_callV (X : Stand p l e R s m args below meth c T locs cells slots) (hexec : p.tables.exec = Jvm.exec) {own C : String} {index : Nat} {y : MethodName} {bytes : ByteArray} {maxL : Nat} {ret : Option FieldType}
    (hown : s.vm.findClass own = some m.cls) (hlink : (Cond.methodLink own index y).before args s = true) (hinst : (Cond.instanceMethod y).before args s = true) (hsel : (Cond.selects C y y).before args s = true)
    (hcode : (Cond.code y bytes maxL ret).before args s = true) (hy : y.cls ≠ "java/lang/invoke/MethodHandle" ∧ y.cls ≠ "java/lang/invoke/VarHandle")
    {W9 : Nat} {Pre : Pt → Array Value → Prop} {Post : Pt → Array Value → Option Value → Pt → Prop} {PostX : Pt → Array Value → Addr → Pt → Prop} (hK : vx_Back l R p e below s args y 3 W9 Pre Post PostX)
    {b : Addr} {cellB : Cell} (hcell : T.heap[b]? = some cellB) (hobj : cellB.vm.isStatics = false) (hcls : s.vm.findClass C = some cellB.cls)
    {g : JFrame} (hg : g.method = m) (hsize : g.locals.size = c.maxLocals) {argsL rest : List Value} (hlen : ∀ sig, parseMethodDescriptor y.desc = some sig → argsL.length = sig.parameters.length)
    (hstack : g.stack = argsL.reverse ++ .ref b :: rest) (hW : 2 * g.monitorRoom + (rest.map fun v => v.category).sum ≤ W9) (hdg : decode c.code g.pc = .ok (.invokevirtual index, 3))
    (hpre : ∀ vm₁, s.WarmedH vm₁ → Pre ⟨T.setVm vm₁, locs, cells, slots⟩ (Value.ref b :: argsL).toArray) :
    (∃ (v : Option Value) (vm₁ : Vm) (B : Pt), s.WarmedH vm₁ ∧ Stand p l e R s m args below meth c B.U B.locs B.cells B.slots ∧ Post ⟨T.setVm vm₁, locs, cells, slots⟩ (Value.ref b :: argsL).toArray v B ∧
      ∀ target, Steps p.tables e below (B.U.setTop { g with pc := g.pc + 3, stack := v.toList ++ rest }) target → Steps p.tables e below (T.setTop g) target) ∨
    (∃ (q : Addr) (vm₁ : Vm) (B : Pt), s.WarmedH vm₁ ∧ Stand p l e R s m args below meth c B.U B.locs B.cells B.slots ∧ PostX ⟨T.setVm vm₁, locs, cells, slots⟩ (Value.ref b :: argsL).toArray q B ∧
      Steps p.tables e below (T.setTop g) ((B.U.setTop { g with stack := rest }).pushFrame (.throwing q))) := by
  obtain ⟨mk, methM, hnamed, hmethM, hstM, habM⟩ := Cond.instanceMethod_spec hinst
  obtain ⟨methM', cM, hmethM', -, -, -, -, -, -, hsigM⟩ := Cond.code_spec hnamed hcode
  cases hmethM.symm.trans hmethM'
  obtain ⟨c2, r2, m2, q1, q2, q3, q4, kP, hkP, hkPi⟩ := Cond.selects_spec hsel
  cases hcls.symm.trans q1
  cases (State.methodFound?_of_named hnamed hy).symm.trans q2
  cases hnamed.symm.trans q3
  have hselP : selectMethod e.platform s.vm cellB.cls mk = .method mk := by rw [Launch.admits_selectMethod X.admits]; exact q4
  obtain ⟨vm₁, X₁, hstep₁⟩ := X.invokevirtual hexec hown hlink hnamed hmethM hstM hkP hkPi hy (a := b) (cell := cellB) hcell
    (fun z h => by rw [h] at hobj; cases hobj) hselP hmethM habM hkP hkPi (g := g) hg (argsL := argsL) (rest := rest) (hlen _ hsigM) hstack hdg
  rcases hK m meth c ⟨T.setVm vm₁, locs, cells, slots⟩ { g with stack := rest } (.invokevirtual index) mk (Value.ref b :: argsL).toArray X₁ hg hsize hdg hW (X₁.named hnamed) (hpre vm₁ X₁.warmed) with ⟨v, B, X', hpost, hsteps⟩ | ⟨q, B, X', hpost, hsteps⟩
  · exact Or.inl ⟨v, vm₁, B, X₁.warmed, X', hpost, fun target h => hstep₁ _ fun acts => by rw [doInvoke_state]; exact hsteps.trans h⟩
  · exact Or.inr ⟨q, vm₁, B, X₁.warmed, X', hpost, hstep₁ _ fun acts => by rw [doInvoke_state]; exact hsteps⟩
theorem vx_callS (X : Stand p l e R s m args below meth c T locs cells slots) (hexec : p.tables.exec = Jvm.exec) {own : String} {index : Nat} {y : MethodName} {bytes : ByteArray} {maxL : Nat} {ret : Option FieldType}
    (hown : s.vm.findClass own = some m.cls) (hlink : (Cond.methodLink own index y).before args s = true) (hstat : (Cond.static y).before args s = true) (hinit : (Cond.initialized y.cls).before args s = true)
    (hcode : (Cond.code y bytes maxL ret).before args s = true) (hy : y.cls ≠ "java/lang/invoke/MethodHandle" ∧ y.cls ≠ "java/lang/invoke/VarHandle")
    {W9 : Nat} {Pre : Pt → Array Value → Prop} {Post : Pt → Array Value → Option Value → Pt → Prop} {PostX : Pt → Array Value → Addr → Pt → Prop} (hK : vx_Back l R p e below s args y 3 W9 Pre Post PostX)
    {g : JFrame} (hg : g.method = m) (hsize : g.locals.size = c.maxLocals) {argsL rest : List Value} (hlen : ∀ sig, parseMethodDescriptor y.desc = some sig → argsL.length = sig.parameters.length)
    (hstack : g.stack = argsL.reverse ++ rest) (hW : 2 * g.monitorRoom + (rest.map fun v => v.category).sum ≤ W9) (hdg : decode c.code g.pc = .ok (.invokestatic index, 3))
    (hpre : ∀ vm₁, s.WarmedH vm₁ → Pre ⟨T.setVm vm₁, locs, cells, slots⟩ argsL.toArray) :
    (∃ (v : Option Value) (vm₁ : Vm) (B : Pt), s.WarmedH vm₁ ∧ Stand p l e R s m args below meth c B.U B.locs B.cells B.slots ∧ Post ⟨T.setVm vm₁, locs, cells, slots⟩ argsL.toArray v B ∧
      ∀ target, Steps p.tables e below (B.U.setTop { g with pc := g.pc + 3, stack := v.toList ++ rest }) target → Steps p.tables e below (T.setTop g) target) ∨
    (∃ (q : Addr) (vm₁ : Vm) (B : Pt), s.WarmedH vm₁ ∧ Stand p l e R s m args below meth c B.U B.locs B.cells B.slots ∧ PostX ⟨T.setVm vm₁, locs, cells, slots⟩ argsL.toArray q B ∧
      Steps p.tables e below (T.setTop g) ((B.U.setTop { g with stack := rest }).pushFrame (.throwing q))) := by
  obtain ⟨mk, hnamed⟩ := Cond.code_named hcode
  obtain ⟨methM, cM, hmethM, -, -, -, -, -, -, hsigM⟩ := Cond.code_spec hnamed hcode
  have hstatic : methM.isStatic = true := Cond.static_spec hnamed hmethM hstat
  obtain ⟨kP, hkP, -⟩ := className_of_methodNamed hnamed
  have hinitP : kP.init = .initialized := Cond.initialized_spec (findClass_of_methodNamed hnamed) hkP hinit
  obtain ⟨vm₁, X₁, hstep₁⟩ := X.invokestatic hexec hown hlink hnamed hmethM hstatic hkP hinitP hy (g := g) hg (argsL := argsL) (rest := rest) (hlen _ hsigM) hstack hdg
  rcases hK m meth c ⟨T.setVm vm₁, locs, cells, slots⟩ { g with stack := rest } (.invokestatic index) mk argsL.toArray X₁ hg hsize hdg hW (X₁.named hnamed) (hpre vm₁ X₁.warmed) with ⟨v, B, X', hpost, hsteps⟩ | ⟨q, B, X', hpost, hsteps⟩
  · exact Or.inl ⟨v, vm₁, B, X₁.warmed, X', hpost, fun target h => hstep₁ _ fun acts => by rw [doInvoke_state]; exact hsteps.trans h⟩
  · exact Or.inr ⟨q, vm₁, B, X₁.warmed, X', hpost, hstep₁ _ fun acts => by rw [doInvoke_state]; exact hsteps⟩
end Calls
theorem vx_cls {s : State} {T : State} {vm₁ : Vm} {E : String} {k : ClassId} (hW : s.WarmedH vm₁) (h : (T.setVm vm₁).vm.findClass E = some k) : s.vm.findClass E = some k := by
  have h1 : vm₁.findClass E = some k := h
  rw [hW.alike.findClass] at h1
  exact h1
/-- the method's frame g, with q thrown over it -/
def vx_W (p : Program) (l : Launch) (e : Env) (R : Room) (s : State) (m : MethodId) (args : Array Value) (below : List Frame) (meth : Method) (c : Code) (H : Heap) (locs : List Loc) (cells slots : Nat) (Q : State → Prop) (g : JFrame) (q : Addr) : Prop :=
  ∀ T : State, T.heap = H → Stand p l e R s m args below meth c T locs cells slots → ∃ t, Steps p.tables e below ((T.setTop g).pushFrame (.throwing q)) t ∧ Q t
def vx_Run (p : Program) (l : Launch) (e : Env) (R : Room) (s : State) (m : MethodId) (args : Array Value) (below : List Frame) (meth : Method) (c : Code) (H : Heap) (locs : List Loc) (cells slots mc ms : Nat) (g : JFrame) (rest : List Value) (Qa : State → Outcome → State → Prop) (XC : String → State → State → Prop) (free : Addr → Prop) : Prop :=
  ∀ T : State, T.heap = H → Stand p l e R s m args below meth c T locs cells slots →
    (∃ (v : Option Value) (st₀ t T' : State) (L : List Loc), st₀.heap = H ∧ Stand p l e R s m args below meth c T' (locs ++ L) (cells + mc) (slots + ms) ∧ (∀ q ∈ L, free q.base) ∧ T'.heap = t.heap ∧ T'.vm = t.vm ∧ Qa st₀ (.returned v) t ∧
      Goes p e below T g T' { g with pc := g.pc + 3, stack := v.toList ++ rest }) ∨
    (∃ (q : Addr) (st₀ t T' : State) (L : List Loc) (E : String) (ce : Cell), st₀.heap = H ∧ Stand p l e R s m args below meth c T' (locs ++ L) (cells + mc) (slots + ms) ∧ (∀ z ∈ L, free z.base) ∧ T'.heap = t.heap ∧ T'.vm = t.vm ∧ XC E st₀ t ∧ t.heap[q]? = some ce ∧ ce.vm = .none ∧ s.vm.findClass E = some ce.cls ∧
      Steps p.tables e below (T.setTop g) ((T'.setTop { g with stack := rest }).pushFrame (.throwing q)))
def vx_X {S : Type} (px : S → Prop) (B : String → S → State → Prop) (A : Nat → Prop) : String → State → State → Prop := fun E st t => ∃ u : S, px u ∧ B E u t ∧ va_F A st t
section Runs
variable {p : Program} {l : Launch} {e : Env} {R : Room} {s : State} {m : MethodId} {args : Array Value} {below : List Frame} {meth : Method} {c : Code} {H : Heap} {locs : List Loc} {cells slots : Nat}
variable {y : MethodName} {bytes cc : ByteArray} {maxL nL mc ms n index : Nat} {ret : Option FieldType} {ws : List Cond} {rm : Room} {Pc : Array Value → State → Prop} {Qc : Array Value → State → Outcome → State → Prop} {XC : String → State → State → Prop} {free : Addr → Prop} {Ts : List Cond} {own C : String} {b : Addr} {As rest : List Value} {g : JFrame}
theorem vx_callBack (cb : CallB R s args own index y bytes maxL ret ws rm mc ms n) (hM : vx_Met l y ws rm Pc Qc XC mc ms free) (hbl : FrameBlind Pc) : vx_Back l R p e below s args y 3 8 (PreOf R mc ms Pc) (PostOf Qc mc ms free) (vx_Post XC mc ms free) := by
  obtain ⟨hrc, hrs, hfr, hlo, hws, hcw, -, hini, -⟩ := cb
  exact vx_back (bytes := bytes) (maxL := maxL) (ret := ret) hM hbl hrc hrs hfr hlo hws hcw (fun a' U hW => word_at hW (Or.inl (by first | rfl | simp [Cond.onTables, Cond.keeps, Cond.steady])) hini)
theorem vx_runV (S : CallFix p m c cc nL s args Ts own) (hM : vx_Met l y ws rm Pc Qc XC mc ms free) (cw : CallW R s args own C index y bytes maxL ret ws rm mc ms n) (hp : PreV s H C b Pc As)
    (hg : g.method = m) (hn : As.length = n) (hsize : g.locals.size = nL) (hstack : g.stack = As.reverse ++ .ref b :: rest) (hW : 2 * g.monitorRoom + (rest.map fun v => v.category).sum ≤ 8) (hdg : decode cc g.pc = .ok (.invokevirtual index, 3)) (hf : cells + mc ≤ R.cells ∧ slots + ms ≤ R.slots) :
    vx_Run p l e R s m args below meth c H locs cells slots mc ms g rest (Qc (Value.ref b :: As).toArray) XC free := by
  have hK : vx_Back l R p e below s args y 3 8 (PreOf R mc ms Pc) (PostOf Qc mc ms free) (vx_Post XC mc ms free) := vx_callBack cw.1 hM hp.1
  obtain ⟨⟨-, -, -, -, -, -, hcode, -, hy, hlen, hl⟩, hin, hse⟩ := cw
  obtain ⟨hx, hb, hml, ho, -⟩ := S
  obtain ⟨-, ⟨cellB, hcB, hoB, hclB⟩, hPc⟩ := hp
  intro T hT X
  rcases vx_callV X hx (C := C) (bytes := bytes) (maxL := maxL) (ret := ret) ho hl hin hse hcode hy hK (by rw [hT]; exact hcB) hoB hclB hg (hsize.trans hml.symm) (argsL := As) (rest := rest) (fun sig h => hn.trans (hlen sig h)) hstack hW (by rw [hb]; exact hdg)
    (fun vm₁ hW₁ => ⟨hf.1, hf.2, hPc (T.setVm vm₁) hT hW₁⟩) with ⟨v, vm₁, ⟨U', l2, c2, s2⟩, hW₁, X', ⟨g', mk, t, L, e1, e2, hq, h1, hL, h2, h3⟩, st⟩ | ⟨q, vm₁, ⟨U', l2, c2, s2⟩, hW₁, X', ⟨g', mk, t, L, E, ce, e1, e2, hq, hce, hcv, hcl, h1, hL, h2, h3⟩, st⟩
  · dsimp only [Pt.U, Pt.locs, Pt.cells, Pt.slots] at X' e1 e2 h1 h2 h3 st
    subst h1; subst h2; subst h3
    exact Or.inl ⟨v, (T.setVm vm₁).calling g' mk (Value.ref b :: As).toArray, t, U', L, hT, X', hL, e1, e2, hq, st⟩
  · dsimp only [Pt.U, Pt.locs, Pt.cells, Pt.slots] at X' e1 e2 h1 h2 h3 st hcl
    subst h1; subst h2; subst h3
    exact Or.inr ⟨q, (T.setVm vm₁).calling g' mk (Value.ref b :: As).toArray, t, U', L, E, ce, hT, X', hL, e1, e2, hq, hce, hcv, vx_cls hW₁ hcl, st⟩
theorem vx_runS (S : CallFix p m c cc nL s args Ts own) (hM : vx_Met l y ws rm Pc Qc XC mc ms free) (cw : CallB R s args own index y bytes maxL ret ws rm mc ms n ∧ (Cond.static y).before args s = true) (hp : PreS s H Pc As)
    (hg : g.method = m) (hn : As.length = n) (hsize : g.locals.size = nL) (hstack : g.stack = As.reverse ++ rest) (hW : 2 * g.monitorRoom + (rest.map fun v => v.category).sum ≤ 8) (hdg : decode cc g.pc = .ok (.invokestatic index, 3)) (hf : cells + mc ≤ R.cells ∧ slots + ms ≤ R.slots) :
    vx_Run p l e R s m args below meth c H locs cells slots mc ms g rest (Qc As.toArray) XC free := by
  have hK : vx_Back l R p e below s args y 3 8 (PreOf R mc ms Pc) (PostOf Qc mc ms free) (vx_Post XC mc ms free) := vx_callBack cw.1 hM hp.1
  obtain ⟨⟨-, -, -, -, -, -, hcode, hini, hy, hlen, hl⟩, hstt⟩ := cw
  obtain ⟨hx, hb, hml, ho, -⟩ := S
  intro T hT X
  rcases vx_callS X hx (bytes := bytes) (maxL := maxL) (ret := ret) ho hl hstt hini hcode hy hK hg (hsize.trans hml.symm) (argsL := As) (rest := rest) (fun sig h => hn.trans (hlen sig h)) hstack hW (by rw [hb]; exact hdg)
    (fun vm₁ hW₁ => ⟨hf.1, hf.2, hp.2 (T.setVm vm₁) hT hW₁⟩) with ⟨v, vm₁, ⟨U', l2, c2, s2⟩, hW₁, X', ⟨g', mk, t, L, e1, e2, hq, h1, hL, h2, h3⟩, st⟩ | ⟨q, vm₁, ⟨U', l2, c2, s2⟩, hW₁, X', ⟨g', mk, t, L, E, ce, e1, e2, hq, hce, hcv, hcl, h1, hL, h2, h3⟩, st⟩
  · dsimp only [Pt.U, Pt.locs, Pt.cells, Pt.slots] at X' e1 e2 h1 h2 h3 st
    subst h1; subst h2; subst h3
    exact Or.inl ⟨v, (T.setVm vm₁).calling g' mk As.toArray, t, U', L, hT, X', hL, e1, e2, hq, st⟩
  · dsimp only [Pt.U, Pt.locs, Pt.cells, Pt.slots] at X' e1 e2 h1 h2 h3 st hcl
    subst h1; subst h2; subst h3
    exact Or.inr ⟨q, (T.setVm vm₁).calling g' mk As.toArray, t, U', L, E, ce, hT, X', hL, e1, e2, hq, hce, hcv, vx_cls hW₁ hcl, st⟩
end Runs
section Rows
variable {p : Program} {l : Launch} {e : Env} {R : Room} {s : State} {m : MethodId} {args : Array Value} {below : List Frame} {meth : Method} {c : Code} {H : Heap} {locs : List Loc} {cells slots : Nat} {Q : State → Prop}
variable {mc ms : Nat} {free : Addr → Prop} {A0 A1 : Nat → Prop} {H0 : Heap} {a : Array Value} {pc : Nat} {ls : Array Slot} {st0 rest : List Value}
theorem vx_keep {st₀ t T' : State} {L : List Loc} (h0 : st₀.heap = H) (e1 : T'.heap = t.heap) (hS : va_S A0 H0 H locs) (hA : ∀ q, q < H.size → A1 q → A0 q) (hf : ∀ q, free q → A0 q) (hL : ∀ q ∈ L, free q.base) (hF : va_F A1 st₀ t) :
    H.size ≤ T'.heap.size ∧ (∀ q : Nat, q < H.size → ¬ A1 q → T'.heap[q]? = H[q]?) ∧ va_S A0 H0 T'.heap (locs ++ L) := by
  obtain ⟨hz, hk⟩ := hF
  rw [h0] at hz hk
  exact ⟨by rw [e1]; exact hz, fun q h1 h2 => by rw [e1]; exact hk q h1 h2,
    ⟨Nat.le_trans hS.1 (by rw [e1]; exact hz), fun q h1 h2 => by rw [e1, hk q (Nat.lt_of_lt_of_le h1 hS.1) (fun z => h2 (hA q (Nat.lt_of_lt_of_le h1 hS.1) z))]; exact hS.2.1 q h1 h2, fun q hq => by
      rcases List.mem_append.mp hq with h | h
      · exact hS.2.2 q h
      · exact hf _ (hL q h)⟩⟩
theorem vx_calli {S SX : Type} {post : Int32 → S → Prop} {px : SX → Prop} {B : S → State → Prop} {BX : String → SX → State → Prop} {AX : Nat → Prop} (hr : vx_Run p l e R s m args below meth c H locs cells slots mc ms (F0 m pc ls st0) rest (va_Qi post B A1 a) (vx_X px BX AX) free) (hS : va_S A0 H0 H locs) (hA : ∀ q, q < H.size → A1 q → A0 q) (hf : ∀ q, free q → A0 q) (hAX : ∀ q, q < H.size → AX q → A0 q)
    (kx : ∀ (E : String) (ce : Cell) (q9 : Addr) (u : SX) (t : State) (H1 : Heap) (locs1 : List Loc), t.heap = H1 → s.vm.Alike t.vm → px u → BX E u t → H.size ≤ H1.size → (∀ q : Nat, q < H.size → ¬ AX q → H1[q]? = H[q]?) → va_S A0 H0 H1 locs1 → H1[q9]? = some ce → ce.vm = .none → s.vm.findClass E = some ce.cls → vx_W p l e R s m args below meth c H1 locs1 (cells + mc) (slots + ms) Q (F0 m pc ls rest) q9)
    (kk : ∀ (r : Int32) (u : S) (t : State) (H1 : Heap) (locs1 : List Loc), t.heap = H1 → s.vm.Alike t.vm → post r u → B u t → H.size ≤ H1.size → (∀ q : Nat, q < H.size → ¬ A1 q → H1[q]? = H[q]?) → va_S A0 H0 H1 locs1 → W p l e R s m args below meth c H1 locs1 (cells + mc) (slots + ms) Q (F0 m (pc + 3) ls (.int r :: rest))) : W p l e R s m args below meth c H locs cells slots Q (F0 m pc ls st0) := by
  intro T hT X
  rcases hr T hT X with ⟨v, st₀, t, T', L, h0, X', hL, e1, e2, ⟨⟨r, u, hv, hp, hb⟩, hF⟩, st⟩ | ⟨q, st₀, t, T', L, E, ce, h0, X', hL, e1, e2, ⟨u, hp, hb, hF⟩, hce, hcv, hcl, st⟩
  · cases hv
    obtain ⟨k1, k2, k3⟩ := vx_keep h0 e1 hS hA hf hL hF
    obtain ⟨t2, a1, b1⟩ := kk r u t T'.heap (locs ++ L) e1.symm (by rw [← e2]; exact X'.warmed.alike) hp hb k1 k2 k3 T' rfl X'
    exact ⟨t2, st t2 a1, b1⟩
  · obtain ⟨k1, k2, k3⟩ := vx_keep h0 e1 hS hAX hf hL hF
    obtain ⟨t2, a1, b1⟩ := kx E ce q u t T'.heap (locs ++ L) e1.symm (by rw [← e2]; exact X'.warmed.alike) hp hb k1 k2 k3 (by rw [e1]; exact hce) hcv hcl T' rfl X'
    exact ⟨t2, st.trans a1, b1⟩
theorem vx_calll {S SX : Type} {post : Int64 → S → Prop} {px : SX → Prop} {B : S → State → Prop} {BX : String → SX → State → Prop} {AX : Nat → Prop} (hr : vx_Run p l e R s m args below meth c H locs cells slots mc ms (F0 m pc ls st0) rest (va_Ql post B A1 a) (vx_X px BX AX) free) (hS : va_S A0 H0 H locs) (hA : ∀ q, q < H.size → A1 q → A0 q) (hf : ∀ q, free q → A0 q) (hAX : ∀ q, q < H.size → AX q → A0 q)
    (kx : ∀ (E : String) (ce : Cell) (q9 : Addr) (u : SX) (t : State) (H1 : Heap) (locs1 : List Loc), t.heap = H1 → s.vm.Alike t.vm → px u → BX E u t → H.size ≤ H1.size → (∀ q : Nat, q < H.size → ¬ AX q → H1[q]? = H[q]?) → va_S A0 H0 H1 locs1 → H1[q9]? = some ce → ce.vm = .none → s.vm.findClass E = some ce.cls → vx_W p l e R s m args below meth c H1 locs1 (cells + mc) (slots + ms) Q (F0 m pc ls rest) q9)
    (kk : ∀ (r : Int64) (u : S) (t : State) (H1 : Heap) (locs1 : List Loc), t.heap = H1 → s.vm.Alike t.vm → post r u → B u t → H.size ≤ H1.size → (∀ q : Nat, q < H.size → ¬ A1 q → H1[q]? = H[q]?) → va_S A0 H0 H1 locs1 → W p l e R s m args below meth c H1 locs1 (cells + mc) (slots + ms) Q (F0 m (pc + 3) ls (.long r :: rest))) : W p l e R s m args below meth c H locs cells slots Q (F0 m pc ls st0) := by
  intro T hT X
  rcases hr T hT X with ⟨v, st₀, t, T', L, h0, X', hL, e1, e2, ⟨⟨r, u, hv, hp, hb⟩, hF⟩, st⟩ | ⟨q, st₀, t, T', L, E, ce, h0, X', hL, e1, e2, ⟨u, hp, hb, hF⟩, hce, hcv, hcl, st⟩
  · cases hv
    obtain ⟨k1, k2, k3⟩ := vx_keep h0 e1 hS hA hf hL hF
    obtain ⟨t2, a1, b1⟩ := kk r u t T'.heap (locs ++ L) e1.symm (by rw [← e2]; exact X'.warmed.alike) hp hb k1 k2 k3 T' rfl X'
    exact ⟨t2, st t2 a1, b1⟩
  · obtain ⟨k1, k2, k3⟩ := vx_keep h0 e1 hS hAX hf hL hF
    obtain ⟨t2, a1, b1⟩ := kx E ce q u t T'.heap (locs ++ L) e1.symm (by rw [← e2]; exact X'.warmed.alike) hp hb k1 k2 k3 (by rw [e1]; exact hce) hcv hcl T' rfl X'
    exact ⟨t2, st.trans a1, b1⟩
theorem vx_callf {S SX : Type} {post : UInt32 → S → Prop} {px : SX → Prop} {B : S → State → Prop} {BX : String → SX → State → Prop} {AX : Nat → Prop} (hr : vx_Run p l e R s m args below meth c H locs cells slots mc ms (F0 m pc ls st0) rest (va_Qf post B A1 a) (vx_X px BX AX) free) (hS : va_S A0 H0 H locs) (hA : ∀ q, q < H.size → A1 q → A0 q) (hf : ∀ q, free q → A0 q) (hAX : ∀ q, q < H.size → AX q → A0 q)
    (kx : ∀ (E : String) (ce : Cell) (q9 : Addr) (u : SX) (t : State) (H1 : Heap) (locs1 : List Loc), t.heap = H1 → s.vm.Alike t.vm → px u → BX E u t → H.size ≤ H1.size → (∀ q : Nat, q < H.size → ¬ AX q → H1[q]? = H[q]?) → va_S A0 H0 H1 locs1 → H1[q9]? = some ce → ce.vm = .none → s.vm.findClass E = some ce.cls → vx_W p l e R s m args below meth c H1 locs1 (cells + mc) (slots + ms) Q (F0 m pc ls rest) q9)
    (kk : ∀ (r : UInt32) (u : S) (t : State) (H1 : Heap) (locs1 : List Loc), t.heap = H1 → s.vm.Alike t.vm → post r u → B u t → H.size ≤ H1.size → (∀ q : Nat, q < H.size → ¬ A1 q → H1[q]? = H[q]?) → va_S A0 H0 H1 locs1 → W p l e R s m args below meth c H1 locs1 (cells + mc) (slots + ms) Q (F0 m (pc + 3) ls (.float r :: rest))) : W p l e R s m args below meth c H locs cells slots Q (F0 m pc ls st0) := by
  intro T hT X
  rcases hr T hT X with ⟨v, st₀, t, T', L, h0, X', hL, e1, e2, ⟨⟨r, u, hv, hp, hb⟩, hF⟩, st⟩ | ⟨q, st₀, t, T', L, E, ce, h0, X', hL, e1, e2, ⟨u, hp, hb, hF⟩, hce, hcv, hcl, st⟩
  · cases hv
    obtain ⟨k1, k2, k3⟩ := vx_keep h0 e1 hS hA hf hL hF
    obtain ⟨t2, a1, b1⟩ := kk r u t T'.heap (locs ++ L) e1.symm (by rw [← e2]; exact X'.warmed.alike) hp hb k1 k2 k3 T' rfl X'
    exact ⟨t2, st t2 a1, b1⟩
  · obtain ⟨k1, k2, k3⟩ := vx_keep h0 e1 hS hAX hf hL hF
    obtain ⟨t2, a1, b1⟩ := kx E ce q u t T'.heap (locs ++ L) e1.symm (by rw [← e2]; exact X'.warmed.alike) hp hb k1 k2 k3 (by rw [e1]; exact hce) hcv hcl T' rfl X'
    exact ⟨t2, st.trans a1, b1⟩
theorem vx_calld {S SX : Type} {post : UInt64 → S → Prop} {px : SX → Prop} {B : S → State → Prop} {BX : String → SX → State → Prop} {AX : Nat → Prop} (hr : vx_Run p l e R s m args below meth c H locs cells slots mc ms (F0 m pc ls st0) rest (va_Qd post B A1 a) (vx_X px BX AX) free) (hS : va_S A0 H0 H locs) (hA : ∀ q, q < H.size → A1 q → A0 q) (hf : ∀ q, free q → A0 q) (hAX : ∀ q, q < H.size → AX q → A0 q)
    (kx : ∀ (E : String) (ce : Cell) (q9 : Addr) (u : SX) (t : State) (H1 : Heap) (locs1 : List Loc), t.heap = H1 → s.vm.Alike t.vm → px u → BX E u t → H.size ≤ H1.size → (∀ q : Nat, q < H.size → ¬ AX q → H1[q]? = H[q]?) → va_S A0 H0 H1 locs1 → H1[q9]? = some ce → ce.vm = .none → s.vm.findClass E = some ce.cls → vx_W p l e R s m args below meth c H1 locs1 (cells + mc) (slots + ms) Q (F0 m pc ls rest) q9)
    (kk : ∀ (r : UInt64) (u : S) (t : State) (H1 : Heap) (locs1 : List Loc), t.heap = H1 → s.vm.Alike t.vm → post r u → B u t → H.size ≤ H1.size → (∀ q : Nat, q < H.size → ¬ A1 q → H1[q]? = H[q]?) → va_S A0 H0 H1 locs1 → W p l e R s m args below meth c H1 locs1 (cells + mc) (slots + ms) Q (F0 m (pc + 3) ls (.double r :: rest))) : W p l e R s m args below meth c H locs cells slots Q (F0 m pc ls st0) := by
  intro T hT X
  rcases hr T hT X with ⟨v, st₀, t, T', L, h0, X', hL, e1, e2, ⟨⟨r, u, hv, hp, hb⟩, hF⟩, st⟩ | ⟨q, st₀, t, T', L, E, ce, h0, X', hL, e1, e2, ⟨u, hp, hb, hF⟩, hce, hcv, hcl, st⟩
  · cases hv
    obtain ⟨k1, k2, k3⟩ := vx_keep h0 e1 hS hA hf hL hF
    obtain ⟨t2, a1, b1⟩ := kk r u t T'.heap (locs ++ L) e1.symm (by rw [← e2]; exact X'.warmed.alike) hp hb k1 k2 k3 T' rfl X'
    exact ⟨t2, st t2 a1, b1⟩
  · obtain ⟨k1, k2, k3⟩ := vx_keep h0 e1 hS hAX hf hL hF
    obtain ⟨t2, a1, b1⟩ := kx E ce q u t T'.heap (locs ++ L) e1.symm (by rw [← e2]; exact X'.warmed.alike) hp hb k1 k2 k3 (by rw [e1]; exact hce) hcv hcl T' rfl X'
    exact ⟨t2, st.trans a1, b1⟩
theorem vx_callv {S SX : Type} {post : S → Prop} {px : SX → Prop} {B : S → State → Prop} {BX : String → SX → State → Prop} {AX : Nat → Prop} (hr : vx_Run p l e R s m args below meth c H locs cells slots mc ms (F0 m pc ls st0) rest (va_Qv post B A1 a) (vx_X px BX AX) free) (hS : va_S A0 H0 H locs) (hA : ∀ q, q < H.size → A1 q → A0 q) (hf : ∀ q, free q → A0 q) (hAX : ∀ q, q < H.size → AX q → A0 q)
    (kx : ∀ (E : String) (ce : Cell) (q9 : Addr) (u : SX) (t : State) (H1 : Heap) (locs1 : List Loc), t.heap = H1 → s.vm.Alike t.vm → px u → BX E u t → H.size ≤ H1.size → (∀ q : Nat, q < H.size → ¬ AX q → H1[q]? = H[q]?) → va_S A0 H0 H1 locs1 → H1[q9]? = some ce → ce.vm = .none → s.vm.findClass E = some ce.cls → vx_W p l e R s m args below meth c H1 locs1 (cells + mc) (slots + ms) Q (F0 m pc ls rest) q9)
    (kk : ∀ (u : S) (t : State) (H1 : Heap) (locs1 : List Loc), t.heap = H1 → s.vm.Alike t.vm → post u → B u t → H.size ≤ H1.size → (∀ q : Nat, q < H.size → ¬ A1 q → H1[q]? = H[q]?) → va_S A0 H0 H1 locs1 → W p l e R s m args below meth c H1 locs1 (cells + mc) (slots + ms) Q (F0 m (pc + 3) ls (rest))) : W p l e R s m args below meth c H locs cells slots Q (F0 m pc ls st0) := by
  intro T hT X
  rcases hr T hT X with ⟨v, st₀, t, T', L, h0, X', hL, e1, e2, ⟨⟨u, hv, hp, hb⟩, hF⟩, st⟩ | ⟨q, st₀, t, T', L, E, ce, h0, X', hL, e1, e2, ⟨u, hp, hb, hF⟩, hce, hcv, hcl, st⟩
  · cases hv
    obtain ⟨k1, k2, k3⟩ := vx_keep h0 e1 hS hA hf hL hF
    obtain ⟨t2, a1, b1⟩ := kk u t T'.heap (locs ++ L) e1.symm (by rw [← e2]; exact X'.warmed.alike) hp hb k1 k2 k3 T' rfl X'
    exact ⟨t2, st t2 a1, b1⟩
  · obtain ⟨k1, k2, k3⟩ := vx_keep h0 e1 hS hAX hf hL hF
    obtain ⟨t2, a1, b1⟩ := kx E ce q u t T'.heap (locs ++ L) e1.symm (by rw [← e2]; exact X'.warmed.alike) hp hb k1 k2 k3 (by rw [e1]; exact hce) hcv hcl T' rfl X'
    exact ⟨t2, st.trans a1, b1⟩
/-- caught by the row x of this method's table; the rows ahead don't take it -/
theorem vx_catch {own name : String} {E : String} {ce : Cell} {q : Addr} (hown : s.vm.findClass own = some m.cls) (pre : List ExceptionTableEntry) (x : ExceptionTableEntry) (suf : List ExceptionTableEntry) (hsplit : c.exceptionTable.toList = pre ++ x :: suf)
    (hpass : ∀ z ∈ pre, covers z pc = false ∨ (z.catchType ≠ 0 ∧ ∃ nm : String, (Cond.classLink own z.catchType nm).before args s = true ∧ va_Nc E nm s)) (hx : covers x pc = true) (h0 : x.catchType ≠ 0)
    (hlink : (Cond.classLink own x.catchType name).before args s = true) (hcast : (Cond.castable E name).before args s = true) (hcell : H[q]? = some ce) (hv : ce.vm = .none) (hcl : s.vm.findClass E = some ce.cls)
    (kk : W p l e R s m args below meth c H locs cells slots Q (F0 m x.handlerPc ls [.ref q])) : vx_W p l e R s m args below meth c H locs cells slots Q (F0 m pc ls rest) q := by
  intro T hT X
  have hpl : e.platform.magicAccessors = ({} : Platform).magicAccessors := by rw [X.admits.platform]
  obtain ⟨c3, c4, hc3, hc4, hasg⟩ := Cond.castable_spec hcast
  cases Option.some.inj (hc3.symm.trans hcl)
  obtain ⟨c5, hc5, hcl5⟩ := Cond.classLink_spec hown hlink e.platform hpl
  cases Option.some.inj (hc4.symm.trans hc5)
  obtain ⟨vm', X', st⟩ := X.thenCaughtThrough q (g := F0 m pc ls rest) rfl (Steps.refl _) (by rw [hT]; exact hcell) (by rw [hv]; rfl) (by obtain ⟨k9, h9, -⟩ := Vm.findClass_spec hcl; exact ⟨k9, h9⟩) pre x suf hsplit
    (fun z hz => by
      rcases hpass z hz with h | ⟨hz0, nm, hl1, hn1⟩
      · exact Or.inl h
      · obtain ⟨c6, hc6, hcl6⟩ := Cond.classLink_spec hown hl1 e.platform hpl
        obtain ⟨a8, b8, h1, h2, h3⟩ := hn1
        cases Option.some.inj (h1.symm.trans hcl)
        cases Option.some.inj (h2.symm.trans hc6)
        exact Or.inr ⟨hz0, _, hcl6, h3⟩) hx (Or.inr ⟨h0, c4, hcl5, hasg⟩)
  obtain ⟨t, a1, b1⟩ := kk (T.setVm vm') hT X'
  exact ⟨t, st.trans a1, b1⟩
end Rows
section Ends
variable {p : Program} {l : Launch} {e : Env} {R : Room} {s : State} {m : MethodId} {args : Array Value} {below : List Frame} {meth : Method} {c : Code} {H : Heap} {locs : List Loc} {cells slots : Nat} {Q : State → Prop}
variable {mc ms : Nat} {free : Addr → Prop} {A0 A1 : Nat → Prop} {H0 : Heap} {a : Array Value} {ls : Array Slot} {st0 rest : List Value}
variable {Qc : Array Value → State → Outcome → State → Prop} {XC : String → State → State → Prop}
/-- what a body that may throw owes at its end -/
def vx_MQ (below : List Frame) (Qc : Array Value → State → Outcome → State → Prop) (XC : String → State → State → Prop) (a : Array Value) (s : State) (mc ms : Nat) (free : Addr → Prop) : State → Prop := fun t =>
  ∃ o, t.status = .running ∧ Ended t below o ∧ vx_Q Qc XC mc ms free a s o t
theorem vx_ret {g : JFrame} {mc ms : Nat} (k : W p l e R s m args below meth c H locs cells slots (MQ below Qc args s mc ms free) g) : W p l e R s m args below meth c H locs cells slots (vx_MQ below Qc XC args s mc ms free) g := by
  intro T hT X
  obtain ⟨t, a1, o, b1, b2, b3, b4⟩ := k T hT X
  exact ⟨t, a1, o, b1, b2, Or.inl ⟨b3, b4⟩⟩
/-- not caught here: it goes on to the caller -/
theorem vx_widen {g : JFrame} {q : Addr} {k n : Nat} (h1 : cells ≤ k) (h2 : slots ≤ n) (kk : vx_W p l e R s m args below meth c H locs k n Q g q) : vx_W p l e R s m args below meth c H locs cells slots Q g q := fun T hT X => kk T hT (stand_widen X h1 h2)
theorem vx_out {pc : Nat} {E : String} {ce : Cell} {q : Addr} {mc ms : Nat} (hout : ∀ x ∈ c.exceptionTable.toList, covers x pc = false) (hlocks : meth.locks = false) (hcell : H[q]? = some ce) (hv : ce.vm = .none) (hcl : s.vm.findClass E = some ce.cls)
    (hx : ∀ t : State, t.heap = H → s.vm.Alike t.vm → XC E s t) (hf : ∀ z ∈ locs, free z.base) (hc : cells ≤ mc) (hs : slots ≤ ms) :
    vx_W p l e R s m args below meth c H locs cells slots (vx_MQ below Qc XC args s mc ms free) (F0 m pc ls rest) q := by
  intro T hT X
  obtain ⟨st1, hrun, hend, hW, hsm⟩ := X.leaveThrown q (g := F0 m pc ls rest) rfl rfl rfl hout hlocks
  have hcell9 : (T.setFrames (.throwing q :: below)).heap[q]? = some ce := by
    show T.heap[q]? = some ce
    rw [hT]; exact hcell
  exact ⟨_, st1, .threw q, hrun, hend, Or.inr ⟨q, rfl, E, ce, locs, hx _ hT hW.alike, hcell9, hv, hcl, hW, hsm.mono hc hs, hf⟩⟩
theorem vx_frame {U : State} {k n : Nat} (h : s.sameButNew ({ U with vm := s.vm } : State) locs k n) : s.heap.size ≤ U.heap.size ∧ ∀ q : Nat, q < s.heap.size → (∀ z ∈ locs, z.base ≠ q) → U.heap[q]? = s.heap[q]? := by
  obtain ⟨-, h2, -, -, -, h6⟩ := h
  refine ⟨h2, fun q hq hz => ?_⟩
  obtain ⟨c9, e1, e2, e3, e4⟩ := h6 q _ (Array.getElem?_eq_getElem hq)
  have hs : c9.slots = (s.heap[q]).slots := Array.ext_getElem? fun i => e4 i fun hm => hz _ hm rfl
  have h9 : c9 = s.heap[q] := by
    rw [hs] at e2
    exact e2
  have e5 : U.heap[q]? = some c9 := e1
  rw [e5, h9, Array.getElem?_eq_getElem hq]
/-- the words of a throw but the four that speak of the heap -/
def vx_no (w : Cond) : Bool := decide (w ≠ .isRef (.static Bundle.tN "UNASSIGNED_STACK" Bundle.steD)) && decide (w ≠ .isRef (.static Bundle.tN "SUPPRESSED_SENTINEL" Bundle.listD)) && decide (w ≠ .laysStatic Bundle.tN "UNASSIGNED_STACK" Bundle.steD) && decide (w ≠ .laysStatic Bundle.tN "SUPPRESSED_SENTINEL" Bundle.listD)
def vx_at0 (own : String) (ic : Nat) (X : String) (names : List String) : List Cond := (Bundle.ownAtoms0 own ic X names).filter vx_no
def vx_atS (own : String) (ic : Nat) (X : String) (names : List String) : List Cond := (Bundle.ownAtoms own ic X names).filter vx_no
/-- a word that the tables alone decide, or a good one -/
def vx_ot (w : Cond) : Bool := w.onTables || goodWord w
theorem vx_ot_at {args a' : Array Value} {s U : State} {w : Cond} (hW : s.WarmedH U.vm) (hvm : s.vm = U.vm) (hg : vx_ot w = true) (h : w.before args s = true) : w.before a' U = true := by
  simp only [vx_ot, Bool.or_eq_true] at hg
  rcases hg with hg | hg
  · exact va_tabs hg hvm h
  · exact word_at hW (good_of_word hg) h
/-- a list's words: the good ones out of the method's own list, the others by premises of their own -/
theorem vx_hat {args : Array Value} {s : State} {L B : List Cond} (h1 : ∀ w ∈ L.filter goodWord, w.before args s = true) (h2 : ∀ w ∈ L.filter (fun w => !goodWord w), w ∈ B) (h3 : ∀ w ∈ B, w.before args s = true) : ∀ w ∈ L, w.before args s = true := by
  intro w hw
  by_cases g : goodWord w = true
  · exact h1 w (List.mem_filter.mpr ⟨hw, g⟩)
  · refine h3 w (h2 w (List.mem_filter.mpr ⟨hw, ?_⟩))
    show (!goodWord w) = true
    cases hgw : goodWord w
    · rfl
    · exact absurd hgw g
theorem vx_c {args : Array Value} {s : State} {w : Cond} {B : List Cond} (h : w.before args s = true) (t : ∀ w ∈ B, w.before args s = true) : ∀ w' ∈ w :: B, w'.before args s = true := fun w' h' => (List.mem_cons.mp h').elim (fun e => by rw [e]; exact h) (t w')
theorem vx_n {args : Array Value} {s : State} : ∀ w ∈ ([] : List Cond), w.before args s = true := fun _ h => nomatch h
theorem vx_own {args : Array Value} {s : State} {L : List Cond} (h1 : ∀ w ∈ L.filter vx_no, w.before args s = true)
    (hU : (Cond.isRef (.static Bundle.tN "UNASSIGNED_STACK" Bundle.steD)).before args s = true) (hN : (Cond.isRef (.static Bundle.tN "SUPPRESSED_SENTINEL" Bundle.listD)).before args s = true)
    (lU : (Cond.laysStatic Bundle.tN "UNASSIGNED_STACK" Bundle.steD).before args s = true) (lN : (Cond.laysStatic Bundle.tN "SUPPRESSED_SENTINEL" Bundle.listD).before args s = true) : ∀ w ∈ L, w.before args s = true := by
  intro w hw
  by_cases e1 : w = .isRef (.static Bundle.tN "UNASSIGNED_STACK" Bundle.steD)
  · rw [e1]; exact hU
  · by_cases e2 : w = .isRef (.static Bundle.tN "SUPPRESSED_SENTINEL" Bundle.listD)
    · rw [e2]; exact hN
    · by_cases e3 : w = .laysStatic Bundle.tN "UNASSIGNED_STACK" Bundle.steD
      · rw [e3]; exact lU
      · by_cases e4 : w = .laysStatic Bundle.tN "SUPPRESSED_SENTINEL" Bundle.listD
        · rw [e4]; exact lN
        · exact h1 w (List.mem_filter.mpr ⟨hw, by unfold vx_no; rw [decide_eq_true e1, decide_eq_true e2, decide_eq_true e3, decide_eq_true e4]; rfl⟩)
/-- where a static field lies, its class's statics cell in H -/
def vx_L (C n d : String) (A : Nat → Prop) (U : State) (H : Heap) : Prop := ∃ (c : ClassId) (k : Class) (i : Nat) (f : Field) (a : Nat) (cell : Cell), U.vm.findClass C = some c ∧ U.fieldFound? C n d = some (c, k, i, f) ∧ f.isStatic = true ∧ k.statics = some a ∧ H[a]? = some cell ∧ cell.vm.isStatics = true ∧ cell.cls = c ∧ f.slot < cell.slots.size ∧ k.staticTypes[f.slot]? = some f.type ∧ ¬ A a
theorem vx_L.moved {C n d : String} {A : Nat → Prop} {u U : State} {H : Heap} (hvm : u.vm.Alike U.vm) (h : vx_L C n d A u H) : vx_L C n d A U H := by
  obtain ⟨c, k, i, f, a, cell, h1, h2, h3, h4, h5, h6, h7, h8, h9, h10⟩ := h
  obtain ⟨k', hi', he⟩ := State.fieldFound?_setVm hvm h2
  exact ⟨c, k', i, f, a, cell, by rw [hvm.findClass]; exact h1, hi', h3, by rw [he]; exact h4, h5, h6, h7, h8, by rw [he]; exact h9, h10⟩
theorem vx_L.kept {C n d : String} {A : Nat → Prop} {U : State} {H H1 : Heap} (h : vx_L C n d A U H) (hq : ∀ a : Nat, a < H.size → ¬ A a → H1[a]? = H[a]?) : vx_L C n d A U H1 := by
  obtain ⟨c, k, i, f, a, cell, h1, h2, h3, h4, h5, h6, h7, h8, h9, h10⟩ := h
  exact ⟨c, k, i, f, a, cell, h1, h2, h3, h4, by rw [hq a (Array.getElem?_eq_some_iff.mp h5).1 h10]; exact h5, h6, h7, h8, h9, h10⟩
theorem vx_L.narrow {C n d : String} {A B : Nat → Prop} {U : State} {H : Heap} (h : vx_L C n d A U H) (hAB : ∀ q, B q → A q) : vx_L C n d B U H := by
  obtain ⟨c, k, i, f, a, cell, h1, h2, h3, h4, h5, h6, h7, h8, h9, h10⟩ := h
  exact ⟨c, k, i, f, a, cell, h1, h2, h3, h4, h5, h6, h7, h8, h9, fun z => h10 (hAB _ z)⟩
theorem vx_L.word {C n d : String} {A : Nat → Prop} {s : State} {args : Array Value} (h : vx_L C n d A s s.heap) : (Cond.laysStatic C n d).before args s = true := by
  obtain ⟨c, k, i, f, a, cell, h1, h2, h3, h4, h5, h6, h7, h8, h9, -⟩ := h
  show (Cond.laysStatic C n d).holds args s none s [] = true
  exact Cond.laysStatic_of h1 h2 h3 h4 h5 h6 h7 h8 h9
/-- .. and what it holds: null or some reference -/
def vx_Zq (C n d : String) (A : Nat → Prop) (U : State) (H : Heap) : Prop := va_Zq C n d A U H ∧ vx_L C n d A U H
theorem vx_Zq.moved {C n d : String} {A : Nat → Prop} {u U : State} {H : Heap} (hvm : u.vm.Alike U.vm) (h : vx_Zq C n d A u H) : vx_Zq C n d A U H := ⟨va_Zq.moved hvm h.1, vx_L.moved hvm h.2⟩
theorem vx_Zq.kept {C n d : String} {A : Nat → Prop} {U : State} {H H1 : Heap} (h : vx_Zq C n d A U H) (hq : ∀ a : Nat, a < H.size → ¬ A a → H1[a]? = H[a]?) : vx_Zq C n d A U H1 := ⟨va_Zq.kept h.1 hq, vx_L.kept h.2 hq⟩
theorem vx_Zq.narrow {C n d : String} {A B : Nat → Prop} {U : State} {H : Heap} (h : vx_Zq C n d A U H) (hAB : ∀ q, B q → A q) : vx_Zq C n d B U H := ⟨va_Zq.narrow h.1 hAB, vx_L.narrow h.2 hAB⟩
theorem vx_Zqof {args : Array Value} {s : State} {C n d : String} {A : Nat → Prop} (hl : (Cond.laysStatic C n d).before args s = true) (hini : (Cond.initialized C).before args s = true) (h : (Cond.isRef (.static C n d)).before args s = true) (hA : ∀ a : Nat, a < s.heap.size → ¬ A a) : vx_Zq C n d A s s.heap := by
  refine ⟨va_Zqof hl hini h hA, ?_⟩
  obtain ⟨c, k, i, f, a, cell, h1, h2, h3, h4, h5, h6, h7, h8, h9⟩ := Cond.laysStatic_spec hl
  exact ⟨c, k, i, f, a, cell, h1, h2, h3, h4, h5, h6, h7, h8, h9, hA a (Array.getElem?_eq_some_iff.mp h5).1⟩
theorem vx_isRef {C n d : String} {v : Value} {A : Nat → Prop} {s : State} {args : Array Value} (h : va_Z C n d v A s s.heap) (hv : v.isRef = true) : (Cond.isRef (.static C n d)).before args s = true := by
  obtain ⟨cf, kf, fi, f, a, cell, h1, h2, h3, h4, h5, h6, h7, -⟩ := h
  have he : (Term.static C n d).eval args s none [] s = some v := by
    simp [Term.eval, State.fieldNamed?, h1, h2, h4, h5, h6, h7]
  simp only [Cond.before, Cond.holds, Cond.value, he]
  cases v <;> simp_all [Value.isRef]
theorem vx_isRefq {C n d : String} {A : Nat → Prop} {s : State} {args : Array Value} (h : va_Zq C n d A s s.heap) : (Cond.isRef (.static C n d)).before args s = true := by
  rcases h with h | ⟨t, h⟩
  · exact vx_isRef h rfl
  · exact vx_isRef h rfl
/-- the same frame, seen from here: as if the method were called anew in this heap -/
theorem vx_rebase {T : State} (X : Stand p l e R s m args below meth c T locs cells slots) {R' : Room} (hf : R'.frames ≤ R.frames) (hl : R'.locals ≤ R.locals) (hc : cells + R'.cells ≤ R.cells) (hs : slots + R'.slots ≤ R.slots) :
    Stand p l e R' ((T.setVm s.vm).setFrames (.invoking m args :: below)) m args below meth c T [] 0 0 := by
  have htop : (T.setVm s.vm).topJava?.isSome := X.here.top
  have hF : ((T.setVm s.vm).setFrames (.invoking m args :: below)).frames = .invoking m args :: below := State.frames_setFrames _ (State.cur_lt_of_top htop)
  obtain ⟨g₀, hg0⟩ := Option.isSome_iff_exists.mp htop
  obtain ⟨r, hr⟩ := State.topJava?_eq_some.mp hg0
  have hl9 : e.platform.stackLimits (T.setVm s.vm).me = e.platform.stackLimits s.me := X.limits
  have hb9 : (T.setVm s.vm).me.stackBytes = s.me.stackBytes := X.bytes
  refine ⟨X.admits, X.cas, X.clock, hF, ?_, X.hears, X.method, X.code, X.here, X.tail, X.warmed, ?_, ?_, ?_⟩
  · have h := X.room
    have hU : ((T.setVm s.vm).setFrames (.invoking m args :: below)).localsInUse = s.localsInUse := by
      rw [State.localsInUse_invoking hF (meth := meth) (c := c) X.method X.code, State.localsInUse_invoking X.frames X.method X.code]
    simp only [State.hasRoom, Bool.and_eq_true, decide_eq_true_eq] at h ⊢
    obtain ⟨⟨⟨⟨h1, h2, h3, h4, h5, h6⟩, h7⟩, h8⟩, h9⟩ := h
    rw [X.frames, List.length_cons] at h2 h3
    have q1 := X.heapSize
    have q2 := X.used
    simp only [hF, hU, List.length_cons, State.stackLimits_setFrames, State.stackBytes_setFrames, hl9, hb9]
    refine ⟨⟨⟨⟨by omega, by omega, by omega, by omega, by omega, h6⟩, ?_⟩, ?_⟩, X.book⟩
    · show T.heap.size + R'.cells ≤ e.platform.maxCells
      omega
    · show T.slotsUsed + R'.slots ≤ e.platform.maxSlots
      omega
  · rw [State.stackLimits_setFrames]; rfl
  · rw [State.stackBytes_setFrames]; rfl
  · refine ⟨?_, Nat.le_refl _, Nat.le_refl _, ?_, ?_, fun a c9 h9 => ⟨c9, h9, rfl, rfl, fun _ _ => rfl⟩⟩
    · obtain ⟨t, ht, -⟩ := State.frames_cons hr
      show T.setVm s.vm = { ((T.setVm s.vm).setFrames (.invoking m args :: below)).setFrames (T.setVm s.vm).frames with heap := T.heap, slotsUsed := T.slotsUsed }
      rw [State.setFrames_setFrames, State.setFrames_self ht]
      rfl
    · show T.slotsUsed = T.slotsUsed + ((T.heap.toList.drop T.heap.size).map (·.slots.size)).sum
      rw [List.drop_eq_nil_of_le (Nat.le_of_eq Array.length_toList)]
      rfl
    · show ((T.heap.toList.drop T.heap.size).map (·.slots.size)).sum ≤ 0
      rw [List.drop_eq_nil_of_le (Nat.le_of_eq Array.length_toList)]
      exact Nat.le_refl _
/-- 'throw new E()': new; dup; invokespecial; athrow -/
theorem vx_throw0 {cc : ByteArray} {pc : Nat} (hexec : p.tables.exec = Jvm.exec) (hb : c.code = cc) (hl : l.stackTraces = false) {own cls : String} {names : List String} {ik ic mc ms : Nat} {A : Nat → Prop}
    (hown : s.vm.findClass own = some m.cls) (hcls : Bundle.fit cls = true) (hnames : ∀ n ∈ names, Bundle.fit n = true)
    (hk : (Cond.classLink own ik cls).before args s = true) (hini : (Cond.initialized cls).before args s = true) (hat : ∀ w ∈ vx_at0 own ic cls names, w.before args s = true)
    (hgood : ∀ w ∈ Cond.classLink own ik cls :: Cond.initialized cls :: vx_at0 own ic cls names, vx_ot w = true)
    (hU : vx_Zq Bundle.tN "UNASSIGNED_STACK" Bundle.steD A s s.heap) (hN : vx_Zq Bundle.tN "SUPPRESSED_SENTINEL" Bundle.listD A s s.heap) (hS : va_S A s.heap H locs) (hsize : ls.size = c.maxLocals)
    (d0 : decode cc pc = .ok (.new ik, 3)) (d3 : decode cc (pc + 3) = .ok (.dup, 1)) (d4 : decode cc (pc + 4) = .ok (.invokespecial ic, 3)) (d7 : decode cc (pc + 7) = .ok (.athrow, 1))
    (hout : ∀ x ∈ c.exceptionTable.toList, covers x (pc + 7) = false)
    (hRframes : names.length + 3 < R.frames) (hRlocals : (rest.map fun v => v.category).sum + (13 * (names.length + 1) + 42) ≤ R.locals) (hRcells : cells + 1 ≤ R.cells) (hRslots : slots + 6 ≤ R.slots) (hlocks : meth.locks = false)
    (hx : ∀ t : State, s.vm.Alike t.vm → H.size ≤ t.heap.size → (∀ q : Nat, q < H.size → t.heap[q]? = H[q]?) → XC cls s t)
    (hf : ∀ z ∈ locs, free z.base) (hc : cells + 1 ≤ mc) (hs : slots + 6 ≤ ms) :
    W p l e R s m args below meth c H locs cells slots (vx_MQ below Qc XC args s mc ms free) (F0 m pc ls rest) := by
  intro T hT X
  have htr : e.platform.stackTraces = false := (show e.platform.stackTraces = l.stackTraces by rw [X.admits.platform]).trans hl
  have Y := vx_rebase X (R' := { frames := R.frames, locals := R.locals, cells := 1, slots := 6 }) (Nat.le_refl _) (Nat.le_refl _) hRcells hRslots
  obtain ⟨s', hA⟩ : ∃ z, z = (T.setVm s.vm).setFrames (.invoking m args :: below) := ⟨_, rfl⟩
  rw [← hA] at Y
  have hvm : s'.vm = s.vm := by rw [hA]; rfl
  have hhp : s'.heap = H := by rw [hA]; exact hT
  have hW0 : s.WarmedH s'.vm := by rw [hvm]; exact State.WarmedH.refl s
  have hat' : ∀ w ∈ vx_at0 own ic cls names, w.before args s' = true := fun w hw => vx_ot_at hW0 hvm.symm (hgood w (List.mem_cons_of_mem _ (List.mem_cons_of_mem _ hw))) (hat w hw)
  have hk' : (Cond.classLink own ik cls).before args s' = true := vx_ot_at hW0 hvm.symm (hgood _ List.mem_cons_self) hk
  have hini' : (Cond.initialized cls).before args s' = true := vx_ot_at hW0 hvm.symm (hgood _ (List.mem_cons_of_mem _ List.mem_cons_self)) hini
  have hU' : vx_Zq Bundle.tN "UNASSIGNED_STACK" Bundle.steD A s' s'.heap := by rw [hhp]; exact vx_Zq.moved hW0.alike (hU.kept hS.2.1)
  have hN' : vx_Zq Bundle.tN "SUPPRESSED_SENTINEL" Bundle.listD A s' s'.heap := by rw [hhp]; exact vx_Zq.moved hW0.alike (hN.kept hS.2.1)
  have h : ∀ w ∈ Bundle.ownAtoms0 own ic cls names, w.before args s' = true := vx_own hat' (vx_isRefq hU'.1) (vx_isRefq hN'.1) hU'.2.word hN'.2.word
  have hown' : s'.vm.findClass own = some m.cls := by rw [hvm]; exact hown
  have hins : (Cond.instantiable cls 6).before args s' = true := h _ (by simp [Bundle.ownAtoms0])
  obtain ⟨vm₁, cX, kX, hfX, hkX, -, -, X₁, st1⟩ := Y.newCold hexec (own := own) (C := cls) (index := ik) (n := 6) hown' hk' hins hini'
    (g := F0 m pc ls rest) rfl (by rw [hb]; exact d0) (Nat.le_refl _) (Nat.le_refl _)
  generalize hT1 : (T.setVm vm₁).pushCell { cls := cX, slots := kX.instanceTypes.map defaultValue, vm := .none } = T1 at X₁ st1
  have hcat : (Value.ref T.heap.size).category = 1 := rfl
  have hcellA : T1.heap[T.heap.size]? = some (freshCell cX kX) := by rw [← hT1]; exact State.heap_pushCell_size _ _
  have d3' : decode c.code (pc + 3) = .ok (.dup, 1) := by rw [hb]; exact d3
  obtain ⟨U, hsteps, hrun, hend, hW, hsame, ce, hce, hO⟩ := X₁.ctorThrow0 hexec htr (own := own) (cls := cls) (names := names) (ic := ic) hown' hcls hnames h (fun x hx => nomatch hx) hfX hkX hcellA (by rw [hhp, hT]; exact Nat.le_refl _)
    (g := { method := m, pc := pc + 4, locals := ls, stack := .ref T.heap.size :: .ref T.heap.size :: rest, locked := none }) rfl hsize rfl rfl (rest := rest) rfl
    (by rw [hb]; exact d4) (by rw [hb]; exact d7) hout hRframes (by simp only [List.map_cons, List.sum_cons, hcat]; omega) hlocks
  obtain ⟨f1, f2⟩ := vx_frame hsame
  rw [hhp] at f1 f2
  have hWs : s.WarmedH U.vm := State.WarmedH.trans hW0 hW
  have hcl : s.vm.findClass cls = some ce.cls := by
    have h9 := hO.cls
    rw [hvm] at h9
    exact h9
  have hall : s.sameButNew ({ U with vm := s.vm } : State) locs mc ms := by
    subst hA
    obtain ⟨e1, e2⟩ := hsame
    rw [State.setFrames_setFrames] at e1
    have h2 : (T.setVm s.vm).sameButNew ({ U with vm := s.vm } : State) [] (0 + 1) (0 + 6) := ⟨e1, e2⟩
    have h3 := X.same.trans h2
    rw [List.append_nil] at h3
    exact h3.mono hc hs
  refine ⟨U, ?_, .threw T.heap.size, hrun, hend, Or.inr ⟨T.heap.size, rfl, cls, ce, locs, hx U hWs.alike f1 (fun q hq => f2 q hq (fun z hz => nomatch hz)), hce, hO.vm, hcl, hWs, hall, hf⟩⟩
  refine st1 _ ?_
  show Steps p.tables e below (T1.setTop { method := m, pc := pc + 3, locals := ls, stack := .ref T.heap.size :: rest, locked := none }) _
  jvm_step X₁.here [X₁.here.top, hexec, d3', Value.category]
  exact hsteps
/-- 'throw new E("text")': new; dup; ldc; invokespecial; athrow -/
theorem vx_throwS {cc : ByteArray} {pc : Nat} (hexec : p.tables.exec = Jvm.exec) (hb : c.code = cc) (hl : l.stackTraces = false) {own cls text : String} {names : List String} {ik is ic mc ms sa : Nat} {A : Nat → Prop}
    (hown : s.vm.findClass own = some m.cls) (hcls : Bundle.fit cls = true) (hnames : ∀ n ∈ names, Bundle.fit n = true)
    (hk : (Cond.classLink own ik cls).before args s = true) (hini : (Cond.initialized cls).before args s = true) (hstr : vk_R own is text sa s) (hat : ∀ w ∈ vx_atS own ic cls names, w.before args s = true)
    (hgood : ∀ w ∈ Cond.classLink own ik cls :: Cond.initialized cls :: vx_atS own ic cls names, vx_ot w = true)
    (hU : vx_Zq Bundle.tN "UNASSIGNED_STACK" Bundle.steD A s s.heap) (hN : vx_Zq Bundle.tN "SUPPRESSED_SENTINEL" Bundle.listD A s s.heap) (hS : va_S A s.heap H locs) (hsize : ls.size = c.maxLocals)
    (d0 : decode cc pc = .ok (.new ik, 3)) (d3 : decode cc (pc + 3) = .ok (.dup, 1)) (d4 : decode cc (pc + 4) = .ok (.ldc is, 2)) (d6 : decode cc (pc + 6) = .ok (.invokespecial ic, 3)) (d9 : decode cc (pc + 9) = .ok (.athrow, 1))
    (hout : ∀ x ∈ c.exceptionTable.toList, covers x (pc + 9) = false)
    (hRframes : names.length + 3 < R.frames) (hRlocals : (rest.map fun v => v.category).sum + (13 * (names.length + 1) + 43) ≤ R.locals) (hRcells : cells + 1 ≤ R.cells) (hRslots : slots + 6 ≤ R.slots) (hlocks : meth.locks = false)
    (hx : ∀ t : State, s.vm.Alike t.vm → H.size ≤ t.heap.size → (∀ q : Nat, q < H.size → t.heap[q]? = H[q]?) → XC cls s t)
    (hf : ∀ z ∈ locs, free z.base) (hc : cells + 1 ≤ mc) (hs : slots + 6 ≤ ms) :
    W p l e R s m args below meth c H locs cells slots (vx_MQ below Qc XC args s mc ms free) (F0 m pc ls rest) := by
  intro T hT X
  have htr : e.platform.stackTraces = false := (show e.platform.stackTraces = l.stackTraces by rw [X.admits.platform]).trans hl
  have Y := vx_rebase X (R' := { frames := R.frames, locals := R.locals, cells := 1, slots := 6 }) (Nat.le_refl _) (Nat.le_refl _) hRcells hRslots
  obtain ⟨s', hA⟩ : ∃ z, z = (T.setVm s.vm).setFrames (.invoking m args :: below) := ⟨_, rfl⟩
  rw [← hA] at Y
  have hvm : s'.vm = s.vm := by rw [hA]; rfl
  have hhp : s'.heap = H := by rw [hA]; exact hT
  have hW0 : s.WarmedH s'.vm := by rw [hvm]; exact State.WarmedH.refl s
  have hat' : ∀ w ∈ vx_atS own ic cls names, w.before args s' = true := fun w hw => vx_ot_at hW0 hvm.symm (hgood w (List.mem_cons_of_mem _ (List.mem_cons_of_mem _ hw))) (hat w hw)
  have hk' : (Cond.classLink own ik cls).before args s' = true := vx_ot_at hW0 hvm.symm (hgood _ List.mem_cons_self) hk
  have hini' : (Cond.initialized cls).before args s' = true := vx_ot_at hW0 hvm.symm (hgood _ (List.mem_cons_of_mem _ List.mem_cons_self)) hini
  have hU' : vx_Zq Bundle.tN "UNASSIGNED_STACK" Bundle.steD A s' s'.heap := by rw [hhp]; exact vx_Zq.moved hW0.alike (hU.kept hS.2.1)
  have hN' : vx_Zq Bundle.tN "SUPPRESSED_SENTINEL" Bundle.listD A s' s'.heap := by rw [hhp]; exact vx_Zq.moved hW0.alike (hN.kept hS.2.1)
  have h : ∀ w ∈ Bundle.ownAtoms own ic cls names, w.before args s' = true := vx_own hat' (vx_isRefq hU'.1) (vx_isRefq hN'.1) hU'.2.word hN'.2.word
  have hown' : s'.vm.findClass own = some m.cls := by rw [hvm]; exact hown
  have hins : (Cond.instantiable cls 6).before args s' = true := h _ (by simp [Bundle.ownAtoms])
  obtain ⟨vm₁, cX, kX, hfX, hkX, -, -, X₁, st1⟩ := Y.newCold hexec (own := own) (C := cls) (index := ik) (n := 6) hown' hk' hins hini'
    (g := F0 m pc ls rest) rfl (by rw [hb]; exact d0) (Nat.le_refl _) (Nat.le_refl _)
  generalize hT1 : (T.setVm vm₁).pushCell { cls := cX, slots := kX.instanceTypes.map defaultValue, vm := .none } = T1 at X₁ st1
  have hcat : (Value.ref T.heap.size).category = 1 := rfl
  have hcellA : T1.heap[T.heap.size]? = some (freshCell cX kX) := by rw [← hT1]; exact State.heap_pushCell_size _ _
  have d3' : decode c.code (pc + 3) = .ok (.dup, 1) := by rw [hb]; exact d3
  have d4' : decode c.code (pc + 4) = .ok (.ldc is, 2) := by rw [hb]; exact d4
  have hstr' : vk_R own is text sa s' := vk_R.warm hW0 hstr
  obtain ⟨U, hsteps, hrun, hend, hW, hsame, ce, hce, hO⟩ := X₁.ctorThrowS hexec htr (own := own) (cls := cls) (names := names) (ic := ic) hown' hcls hnames h (fun x hx => nomatch hx) hfX hkX hcellA (by rw [hhp, hT]; exact Nat.le_refl _) (msg := .ref sa) rfl
    (g := { method := m, pc := pc + 6, locals := ls, stack := .ref sa :: .ref T.heap.size :: .ref T.heap.size :: rest, locked := none }) rfl hsize rfl rfl (rest := rest) rfl
    (by rw [hb]; exact d6) (by rw [hb]; exact d9) hout hRframes (by simp only [List.map_cons, List.sum_cons, hcat]; omega) hlocks
  obtain ⟨f1, f2⟩ := vx_frame hsame
  rw [hhp] at f1 f2
  have hWs : s.WarmedH U.vm := State.WarmedH.trans hW0 hW
  have hcl : s.vm.findClass cls = some ce.cls := by
    have h9 := hO.cls
    rw [hvm] at h9
    exact h9
  have hall : s.sameButNew ({ U with vm := s.vm } : State) locs mc ms := by
    subst hA
    obtain ⟨e1, e2⟩ := hsame
    rw [State.setFrames_setFrames] at e1
    have h2 : (T.setVm s.vm).sameButNew ({ U with vm := s.vm } : State) [] (0 + 1) (0 + 6) := ⟨e1, e2⟩
    have h3 := X.same.trans h2
    rw [List.append_nil] at h3
    exact h3.mono hc hs
  refine ⟨U, ?_, .threw T.heap.size, hrun, hend, Or.inr ⟨T.heap.size, rfl, cls, ce, locs, hx U hWs.alike f1 (fun q hq => f2 q hq (fun z hz => nomatch hz)), hce, hO.vm, hcl, hWs, hall, hf⟩⟩
  refine st1 _ ?_
  show Steps p.tables e below (T1.setTop { method := m, pc := pc + 3, locals := ls, stack := .ref T.heap.size :: rest, locked := none }) _
  jvm_step X₁.here [X₁.here.top, hexec, d3', Value.category]
  exact X₁.ldcString hexec (own := own) (text := text) (index := is) (a := sa) hown' hstr'.1 hstr'.2
    (g := { method := m, pc := pc + 4, locals := ls, stack := .ref T.heap.size :: .ref T.heap.size :: rest, locked := none }) rfl d4' _ hsteps
/-- 'throw new E("text")', the text by a wide index -/
theorem vx_throwSW {cc : ByteArray} {pc : Nat} (hexec : p.tables.exec = Jvm.exec) (hb : c.code = cc) (hl : l.stackTraces = false) {own cls text : String} {names : List String} {ik is ic mc ms sa : Nat} {A : Nat → Prop}
    (hown : s.vm.findClass own = some m.cls) (hcls : Bundle.fit cls = true) (hnames : ∀ n ∈ names, Bundle.fit n = true)
    (hk : (Cond.classLink own ik cls).before args s = true) (hini : (Cond.initialized cls).before args s = true) (hstr : vk_R own is text sa s) (hat : ∀ w ∈ vx_atS own ic cls names, w.before args s = true)
    (hgood : ∀ w ∈ Cond.classLink own ik cls :: Cond.initialized cls :: vx_atS own ic cls names, vx_ot w = true)
    (hU : vx_Zq Bundle.tN "UNASSIGNED_STACK" Bundle.steD A s s.heap) (hN : vx_Zq Bundle.tN "SUPPRESSED_SENTINEL" Bundle.listD A s s.heap) (hS : va_S A s.heap H locs) (hsize : ls.size = c.maxLocals)
    (d0 : decode cc pc = .ok (.new ik, 3)) (d3 : decode cc (pc + 3) = .ok (.dup, 1)) (d4 : decode cc (pc + 4) = .ok (.ldc_w is, 3)) (d7 : decode cc (pc + 7) = .ok (.invokespecial ic, 3)) (d10 : decode cc (pc + 10) = .ok (.athrow, 1))
    (hout : ∀ x ∈ c.exceptionTable.toList, covers x (pc + 10) = false)
    (hRframes : names.length + 3 < R.frames) (hRlocals : (rest.map fun v => v.category).sum + (13 * (names.length + 1) + 43) ≤ R.locals) (hRcells : cells + 1 ≤ R.cells) (hRslots : slots + 6 ≤ R.slots) (hlocks : meth.locks = false)
    (hx : ∀ t : State, s.vm.Alike t.vm → H.size ≤ t.heap.size → (∀ q : Nat, q < H.size → t.heap[q]? = H[q]?) → XC cls s t)
    (hf : ∀ z ∈ locs, free z.base) (hc : cells + 1 ≤ mc) (hs : slots + 6 ≤ ms) :
    W p l e R s m args below meth c H locs cells slots (vx_MQ below Qc XC args s mc ms free) (F0 m pc ls rest) := by
  intro T hT X
  have htr : e.platform.stackTraces = false := (show e.platform.stackTraces = l.stackTraces by rw [X.admits.platform]).trans hl
  have Y := vx_rebase X (R' := { frames := R.frames, locals := R.locals, cells := 1, slots := 6 }) (Nat.le_refl _) (Nat.le_refl _) hRcells hRslots
  obtain ⟨s', hA⟩ : ∃ z, z = (T.setVm s.vm).setFrames (.invoking m args :: below) := ⟨_, rfl⟩
  rw [← hA] at Y
  have hvm : s'.vm = s.vm := by rw [hA]; rfl
  have hhp : s'.heap = H := by rw [hA]; exact hT
  have hW0 : s.WarmedH s'.vm := by rw [hvm]; exact State.WarmedH.refl s
  have hat' : ∀ w ∈ vx_atS own ic cls names, w.before args s' = true := fun w hw => vx_ot_at hW0 hvm.symm (hgood w (List.mem_cons_of_mem _ (List.mem_cons_of_mem _ hw))) (hat w hw)
  have hk' : (Cond.classLink own ik cls).before args s' = true := vx_ot_at hW0 hvm.symm (hgood _ List.mem_cons_self) hk
  have hini' : (Cond.initialized cls).before args s' = true := vx_ot_at hW0 hvm.symm (hgood _ (List.mem_cons_of_mem _ List.mem_cons_self)) hini
  have hU' : vx_Zq Bundle.tN "UNASSIGNED_STACK" Bundle.steD A s' s'.heap := by rw [hhp]; exact vx_Zq.moved hW0.alike (hU.kept hS.2.1)
  have hN' : vx_Zq Bundle.tN "SUPPRESSED_SENTINEL" Bundle.listD A s' s'.heap := by rw [hhp]; exact vx_Zq.moved hW0.alike (hN.kept hS.2.1)
  have h : ∀ w ∈ Bundle.ownAtoms own ic cls names, w.before args s' = true := vx_own hat' (vx_isRefq hU'.1) (vx_isRefq hN'.1) hU'.2.word hN'.2.word
  have hown' : s'.vm.findClass own = some m.cls := by rw [hvm]; exact hown
  have hins : (Cond.instantiable cls 6).before args s' = true := h _ (by simp [Bundle.ownAtoms])
  obtain ⟨vm₁, cX, kX, hfX, hkX, -, -, X₁, st1⟩ := Y.newCold hexec (own := own) (C := cls) (index := ik) (n := 6) hown' hk' hins hini'
    (g := F0 m pc ls rest) rfl (by rw [hb]; exact d0) (Nat.le_refl _) (Nat.le_refl _)
  generalize hT1 : (T.setVm vm₁).pushCell { cls := cX, slots := kX.instanceTypes.map defaultValue, vm := .none } = T1 at X₁ st1
  have hcat : (Value.ref T.heap.size).category = 1 := rfl
  have hcellA : T1.heap[T.heap.size]? = some (freshCell cX kX) := by rw [← hT1]; exact State.heap_pushCell_size _ _
  have d3' : decode c.code (pc + 3) = .ok (.dup, 1) := by rw [hb]; exact d3
  have d4' : decode c.code (pc + 4) = .ok (.ldc_w is, 3) := by rw [hb]; exact d4
  have hstr' : vk_R own is text sa s' := vk_R.warm hW0 hstr
  obtain ⟨U, hsteps, hrun, hend, hW, hsame, ce, hce, hO⟩ := X₁.ctorThrowS hexec htr (own := own) (cls := cls) (names := names) (ic := ic) hown' hcls hnames h (fun x hx => nomatch hx) hfX hkX hcellA (by rw [hhp, hT]; exact Nat.le_refl _) (msg := .ref sa) rfl
    (g := { method := m, pc := pc + 7, locals := ls, stack := .ref sa :: .ref T.heap.size :: .ref T.heap.size :: rest, locked := none }) rfl hsize rfl rfl (rest := rest) rfl
    (by rw [hb]; exact d7) (by rw [hb]; exact d10) hout hRframes (by simp only [List.map_cons, List.sum_cons, hcat]; omega) hlocks
  obtain ⟨f1, f2⟩ := vx_frame hsame
  rw [hhp] at f1 f2
  have hWs : s.WarmedH U.vm := State.WarmedH.trans hW0 hW
  have hcl : s.vm.findClass cls = some ce.cls := by
    have h9 := hO.cls
    rw [hvm] at h9
    exact h9
  have hall : s.sameButNew ({ U with vm := s.vm } : State) locs mc ms := by
    subst hA
    obtain ⟨e1, e2⟩ := hsame
    rw [State.setFrames_setFrames] at e1
    have h2 : (T.setVm s.vm).sameButNew ({ U with vm := s.vm } : State) [] (0 + 1) (0 + 6) := ⟨e1, e2⟩
    have h3 := X.same.trans h2
    rw [List.append_nil] at h3
    exact h3.mono hc hs
  refine ⟨U, ?_, .threw T.heap.size, hrun, hend, Or.inr ⟨T.heap.size, rfl, cls, ce, locs, hx U hWs.alike f1 (fun q hq => f2 q hq (fun z hz => nomatch hz)), hce, hO.vm, hcl, hWs, hall, hf⟩⟩
  refine st1 _ ?_
  show Steps p.tables e below (T1.setTop { method := m, pc := pc + 3, locals := ls, stack := .ref T.heap.size :: rest, locked := none }) _
  jvm_step X₁.here [X₁.here.top, hexec, d3', Value.category]
  exact X₁.ldcStringW hexec (own := own) (text := text) (index := is) (a := sa) hown' hstr'.1 hstr'.2
    (g := { method := m, pc := pc + 4, locals := ls, stack := .ref T.heap.size :: .ref T.heap.size :: rest, locked := none }) rfl d4' _ hsteps
end Ends
section Bodies
variable {l : Launch}
theorem vx_ofW {y : MethodName} {ws ws' : List Cond} {rm : Room} {Pc : Array Value → State → Prop} {Qc : Array Value → State → Outcome → State → Prop} {XC : String → State → State → Prop} {mc ms : Nat} {free : Addr → Prop} {cc : ByteArray} {maxL : Nat} {ret : Option FieldType}
    (hy : plainName y.cls = true) (hw : ws = Cond.code y cc maxL ret :: ws')
    (body : ∀ p e s m args below meth c s₁, BodyLoose p l y (headSpec ws rm) cc maxL ret e s m args below meth c s₁ → c.maxLocals = maxL → (∀ x ∈ c.exceptionTable.toList, False) → Pc args s →
      W p l e (headSpec ws rm).room s m args below meth c s.heap [] 0 0 (vx_MQ below Qc XC args s mc ms free) (entryFrame m args maxL)) : vx_Met l y ws rm Pc Qc XC mc ms free := by
  refine MetFree.of_bodyS (code := cc) (maxLocals := maxL) (ret := ret) hy ?_ ?_
  · intro args s m h hn
    obtain ⟨meth, c, h1, h2, h3, h4, h5, h6, -, -⟩ := Cond.code_spec hn (atoms_spec (ws := ws) h _ (by rw [hw]; exact List.mem_cons_self))
    exact ⟨meth, c, h1, h2, h3, h4, h5, h6⟩
  · intro p e s m args below meth c s₁ B hml hP _
    have hh0 : s₁.heap = s.heap := by rw [B.state]; rfl
    have ht : ∀ x ∈ c.exceptionTable.toList, False := by
      obtain ⟨meth9, c9, h1, h2, -, -, -, -, h7, -⟩ := Cond.code_spec B.named (atoms_spec (ws := ws) B.pre _ (by rw [hw]; exact List.mem_cons_self))
      cases Option.some.inj (h1.symm.trans B.method)
      cases Option.some.inj (h2.symm.trans (Stand.of_body B).code)
      intro x hx
      rw [Array.isEmpty_iff.mp h7] at hx
      cases hx
    obtain ⟨t, a1, o, b1, b2, b3⟩ := body p e s m args below meth c s₁ B hml ht hP s₁ hh0 (Stand.of_body B)
    exact ⟨t, o, a1, b1, b2, b3⟩
/-- the table of a body with handlers -/
theorem vx_table {p : Program} {x y : MethodName} {S : Spec} {cc bytes : ByteArray} {maxL maxL' : Nat} {ret ret' : Option FieldType} {e : Env} {s s₁ : State} {m : MethodId} {args : Array Value} {below : List Frame} {meth : Method} {c : Code} {hh : List (Nat × Nat × Nat × Nat)}
    (B : BodyLoose p l y S cc maxL ret e s m args below meth c s₁) (h : (Cond.codeWith y bytes maxL' ret' hh).before args s = true) : c.exceptionTable.toList = tableOf hh := by
  obtain ⟨m9, meth9, c9, hn9, h1, h2, -, -, h6, -⟩ := Cond.codeWith_spec h
  cases Option.some.inj (hn9.symm.trans B.named)
  cases Option.some.inj (h1.symm.trans B.method)
  cases Option.some.inj (h2.symm.trans (Stand.of_body B).code)
  rw [← h6, table_eq]
end Bodies
end VXA
/-! ===== END ===== -/
/-! ===== BEGIN a static call of a method with an exception table ===== -/
section VXS
variable {p : Program} {l : Launch} {e : Env} {R : Room} {s : State} {m : MethodId} {args : Array Value} {below : List Frame} {meth : Method} {c : Code} {T : State} {H : Heap} {locs : List Loc} {cells slots : Nat}
abbrev vx_CSW (R : Room) (s : State) (args : Array Value) (own : String) (index : Nat) (y : MethodName) (bytes : ByteArray) (maxL : Nat) (ret : Option FieldType) (hh : List (Nat × Nat × Nat × Nat)) (ws : List Cond) (rm : Room) (mc ms n : Nat) : Prop :=
  (rm.cells = mc ∧ rm.slots = ms ∧ rm.frames + 1 ≤ R.frames ∧ 8 + (maxL + 11) + rm.locals ≤ R.locals ∧ (∀ w ∈ ws, ∀ (a' : Array Value) (U : State), s.WarmedH U.vm → w.before a' U = true) ∧ Cond.codeWith y bytes maxL ret hh ∈ ws) ∧
  (Cond.codeWith y bytes maxL ret hh).before args s = true ∧ (Cond.initialized y.cls).before args s = true ∧ (y.cls ≠ "java/lang/invoke/MethodHandle" ∧ y.cls ≠ "java/lang/invoke/VarHandle") ∧
  (∀ sig, parseMethodDescriptor y.desc = some sig → n = sig.parameters.length) ∧ (Cond.methodLink own index y).before args s = true ∧ (Cond.static y).before args s = true
theorem vx_cwSW {own : String} {index maxL mc ms : Nat} {y : MethodName} {bytes : ByteArray} {ret : Option FieldType} {hh : List (Nat × Nat × Nat × Nat)} {Ts ws ws' : List Cond} {rm : Room} (n : Nat) (ht : ∀ w ∈ Ts, w.before args s = true) (hT : GoodIn Ts (va_wsS own index y ws)) (hw : ws = Cond.codeWith y bytes maxL ret hh :: ws') (hrc : rm.cells = mc) (hrs : rm.slots = ms)
    (hd : y.cls ≠ "java/lang/invoke/MethodHandle" ∧ y.cls ≠ "java/lang/invoke/VarHandle" ∧ (parseMethodDescriptor y.desc).map (fun d => d.parameters.length) = some n) (hR : rm.frames + 1 ≤ R.frames ∧ 8 + (maxL + 11) + rm.locals ≤ R.locals) :
    vx_CSW R s args own index y bytes maxL ret hh ws rm mc ms n := by
  have ok : ∀ w ∈ va_wsS own index y ws, w.before args s = true := fun w h => ht w (hT w h).1
  have hG : GoodIn Ts ws := fun w h => hT w (by unfold va_wsS; exact List.mem_append_right _ h)
  have hc : Cond.codeWith y bytes maxL ret hh ∈ ws := by rw [hw]; exact List.mem_cons_self
  refine ⟨⟨hrc, hrs, hR.1, hR.2, pay_in ht hG, hc⟩, ht _ (hG _ hc).1, ok _ (by simp [va_wsS]), ⟨hd.1, hd.2.1⟩, fun sig h => ?_, ok _ (by simp [va_wsS]), ok _ (by simp [va_wsS])⟩
  have h2 := hd.2.2
  rw [h] at h2
  exact (Option.some.inj h2).symm
theorem vx_callSW (X : Stand p l e R s m args below meth c T locs cells slots) (hexec : p.tables.exec = Jvm.exec) {own : String} {index : Nat} {y : MethodName} {bytes : ByteArray} {maxL : Nat} {ret : Option FieldType} {hh : List (Nat × Nat × Nat × Nat)}
    (hown : s.vm.findClass own = some m.cls) (hlink : (Cond.methodLink own index y).before args s = true) (hstat : (Cond.static y).before args s = true) (hinit : (Cond.initialized y.cls).before args s = true)
    (hcode : (Cond.codeWith y bytes maxL ret hh).before args s = true) (hy : y.cls ≠ "java/lang/invoke/MethodHandle" ∧ y.cls ≠ "java/lang/invoke/VarHandle")
    {W9 : Nat} {Pre : Pt → Array Value → Prop} {Post : Pt → Array Value → Option Value → Pt → Prop} (hK : Back l R p e below s args y 3 W9 Pre Post)
    {g : JFrame} (hg : g.method = m) (hsize : g.locals.size = c.maxLocals) {argsL rest : List Value} (hlen : ∀ sig, parseMethodDescriptor y.desc = some sig → argsL.length = sig.parameters.length)
    (hstack : g.stack = argsL.reverse ++ rest) (hW : 2 * g.monitorRoom + (rest.map fun v => v.category).sum ≤ W9) (hdg : decode c.code g.pc = .ok (.invokestatic index, 3))
    (hpre : ∀ vm₁, s.WarmedH vm₁ → Pre ⟨T.setVm vm₁, locs, cells, slots⟩ argsL.toArray) :
    ∃ (v : Option Value) (vm₁ : Vm) (B : Pt), s.WarmedH vm₁ ∧ Stand p l e R s m args below meth c B.U B.locs B.cells B.slots ∧ Post ⟨T.setVm vm₁, locs, cells, slots⟩ argsL.toArray v B ∧
      ∀ target, Steps p.tables e below (B.U.setTop { g with pc := g.pc + 3, stack := v.toList ++ rest }) target → Steps p.tables e below (T.setTop g) target := by
  obtain ⟨mk, methM, cM, hnamed, hmethM, -, -, -, -, -, -, hsigM⟩ := Cond.codeWith_spec hcode
  have hstatic : methM.isStatic = true := Cond.static_spec hnamed hmethM hstat
  obtain ⟨kP, hkP, -⟩ := className_of_methodNamed hnamed
  have hinitP : kP.init = .initialized := Cond.initialized_spec (findClass_of_methodNamed hnamed) hkP hinit
  obtain ⟨vm₁, X₁, hstep₁⟩ := X.invokestatic hexec hown hlink hnamed hmethM hstatic hkP hinitP hy (g := g) hg (argsL := argsL) (rest := rest) (hlen _ hsigM) hstack hdg
  obtain ⟨v, B, X', hpost, hsteps⟩ := hK m meth c ⟨T.setVm vm₁, locs, cells, slots⟩ { g with stack := rest } (.invokestatic index) mk argsL.toArray X₁ hg hsize hdg hW (X₁.named hnamed) (hpre vm₁ X₁.warmed)
  exact ⟨v, vm₁, B, X₁.warmed, X', hpost, fun target h => hstep₁ _ fun acts => by rw [doInvoke_state]; exact hsteps.trans h⟩
theorem vx_runSW {y : MethodName} {bytes cc : ByteArray} {maxL nL mc ms n index : Nat} {ret : Option FieldType} {hh : List (Nat × Nat × Nat × Nat)} {ws : List Cond} {rm : Room} {Pc : Array Value → State → Prop} {Qc : Array Value → State → Outcome → State → Prop} {free : Addr → Prop} {Ts : List Cond} {own : String} {As rest : List Value} {g : JFrame}
    (S : CallFix p m c cc nL s args Ts own) (hM : Met l y ws rm Pc Qc mc ms free) (cw : vx_CSW R s args own index y bytes maxL ret hh ws rm mc ms n) (hp : PreS s H Pc As)
    (hg : g.method = m) (hn : As.length = n) (hsize : g.locals.size = nL) (hstack : g.stack = As.reverse ++ rest) (hW : 2 * g.monitorRoom + (rest.map fun v => v.category).sum ≤ 8) (hdg : decode cc g.pc = .ok (.invokestatic index, 3)) (hf : cells + mc ≤ R.cells ∧ slots + ms ≤ R.slots) :
    va_Run p l e R s m args below meth c H locs cells slots mc ms g rest (Qc As.toArray) (free) := by
  obtain ⟨⟨hrc, hrs, hfr, hlo, hws, hcw⟩, hcode, hini, hy, hlen, hl, hstt⟩ := cw
  have hK : Back l R p e below s args y 3 8 (PreOf R mc ms Pc) (PostOf Qc mc ms free) := va_backW (hh := hh) (bytes := bytes) (maxL := maxL) (ret := ret) hM hp.1 hrc hrs hfr hlo hws hcw (fun a' U hW => word_at hW (Or.inl (by first | rfl | simp [Cond.onTables, Cond.keeps, Cond.steady])) hini)
  obtain ⟨hx, hb, hml, ho, -⟩ := S
  intro T hT X
  obtain ⟨v, vm₁, ⟨U', l2, c2, s2⟩, hW₁, X', ⟨g', mk, t, L, e1, e2, hq, h1, hL, h2, h3⟩, st⟩ := vx_callSW X hx (hh := hh) (bytes := bytes) (maxL := maxL) (ret := ret) ho hl hstt hini hcode hy hK hg (hsize.trans hml.symm) (argsL := As) (rest := rest) (fun sig h => hn.trans (hlen sig h)) hstack hW (by rw [hb]; exact hdg)
    (fun vm₁ hW₁ => ⟨hf.1, hf.2, hp.2 (T.setVm vm₁) hT hW₁⟩)
  dsimp only [Pt.U, Pt.locs, Pt.cells, Pt.slots] at X' e1 e2 h1 h2 h3 st
  subst h1; subst h2; subst h3
  exact ⟨v, (T.setVm vm₁).calling g' mk As.toArray, t, U', L, hT, X', hL, e1, e2, hq, st⟩
/-- not caught here, past rows that name other classes: it goes on to the caller -/
theorem vx_outP {p : Program} {l : Launch} {e : Env} {R : Room} {s : State} {m : MethodId} {args : Array Value} {below : List Frame} {meth : Method} {c : Code} {H : Heap} {locs : List Loc} {cells slots : Nat} {free : Addr → Prop} {ls : Array Slot} {rest : List Value} {Qc : Array Value → State → Outcome → State → Prop} {XC : String → State → State → Prop}
    {pc : Nat} {own E : String} {ce : Cell} {q : Addr} {mc ms : Nat} (hown : s.vm.findClass own = some m.cls) (hlocks : meth.locks = false)
    (hpass : ∀ z ∈ c.exceptionTable.toList, covers z pc = false ∨ (z.catchType ≠ 0 ∧ ∃ nm : String, (Cond.classLink own z.catchType nm).before args s = true ∧ va_Nc E nm s)) (hcell : H[q]? = some ce) (hv : ce.vm = .none) (hcl : s.vm.findClass E = some ce.cls)
    (hx : ∀ t : State, t.heap = H → s.vm.Alike t.vm → XC E s t) (hf : ∀ z ∈ locs, free z.base) (hc : cells ≤ mc) (hs : slots ≤ ms) :
    vx_W p l e R s m args below meth c H locs cells slots (vx_MQ below Qc XC args s mc ms free) (F0 m pc ls rest) q := by
  intro T hT X
  have hpl : e.platform.magicAccessors = ({} : Platform).magicAccessors := by rw [X.admits.platform]
  obtain ⟨vm', hW', X', st⟩ := X.outThrough hlocks q (g := F0 m pc ls rest) rfl rfl rfl (cell := ce) (by rw [hT]; exact hcell) (by rw [hv]; rfl)
    (by obtain ⟨k9, h9, -⟩ := Vm.findClass_spec hcl; exact ⟨k9, h9⟩) (fun z hz => by
      rcases hpass z hz with h | ⟨hz0, nm, hl1, hn1⟩
      · exact Or.inl h
      · obtain ⟨c6, hc6, hcl6⟩ := Cond.classLink_spec hown hl1 e.platform hpl
        obtain ⟨a8, b8, h1, h2, h3⟩ := hn1
        cases Option.some.inj (h1.symm.trans hcl)
        cases Option.some.inj (h2.symm.trans hc6)
        exact Or.inr ⟨hz0, _, hcl6, h3⟩)
  obtain ⟨g₀, hfr⟩ := X'.frames_eq
  have hcell9 : ((T.setVm vm').setFrames (.throwing q :: below)).heap[q]? = some ce := by
    show T.heap[q]? = some ce
    rw [hT]; exact hcell
  have hend : Ended ((T.setVm vm').setFrames (.throwing q :: below)) below (.threw q) := State.frames_setFrames _ (State.cur_lt_of_frames hfr)
  refine ⟨(T.setVm vm').setFrames (.throwing q :: below), ?_, .threw q, X'.here.running, hend, Or.inr ⟨q, rfl, E, ce, locs, hx _ hT (X'.ends _).1.alike, hcell9, hv, hcl, (X'.ends _).1, (X'.ends _).2.mono hc hs, hf⟩⟩
  rw [X.pushThrowing_eq]
  exact st
/-- a thing of a world lies in the heap -/
theorem vx_lt {D : va_G} {cl : List vw_C} {ws : va_W} {H1 : Heap} (h : va_P D cl ws H1) {k : Nat} {q : Nat × va_E} (hk : ws[k]? = some q) : q.1 < H1.size := (h k q hk).lt
end VXS
/-! ===== END ===== -/
/-! ===== BEGIN methods with a table of their own: called by a name, returning or throwing ===== -/
section VXH
/-! vx_backW, vx_callVX, vx_callSX, vx_callVW, vx_runVW, vx_runVX, vx_runSX, vx_ofWH follow the same proofs as their sisters above (Free/Laws.lean, Shelf42/LK1.lean); vx_outP calls Shelf42/NT130.lean (outThrough). -/
section
variable {l : Launch} {R : Room} {p : Program} {e : Env} {below : List Frame} {s : State} {sargs : Array Value} {y : MethodName} {len W9 : Nat}
theorem vx_backW {ws : List Cond} {rm : Room} {Pc : Array Value → State → Prop} {Qc : Array Value → State → Outcome → State → Prop} {XC : String → State → State → Prop} {mc ms : Nat} {free : Addr → Prop} {bytes : ByteArray} {maxL : Nat} {ret : Option FieldType} {hh : List (Nat × Nat × Nat × Nat)}
    (hM : vx_Met l y ws rm Pc Qc XC mc ms free) (hblind : FrameBlind Pc) (hrc : rm.cells = mc) (hrs : rm.slots = ms)
    (hframes : rm.frames + 1 ≤ R.frames) (hlocals : W9 + (maxL + 11) + rm.locals ≤ R.locals)
    (hws : ∀ w ∈ ws, ∀ a' U, s.WarmedH U.vm → w.before a' U = true) (hcode : Cond.codeWith y bytes maxL ret hh ∈ ws) (hinit : ∀ a' U, s.WarmedH U.vm → (Cond.initialized y.cls).before a' U = true) :
    vx_Back l R p e below s sargs y len W9 (PreOf R mc ms Pc) (PostOf Qc mc ms free) (vx_Post XC mc ms free) := by
  intro m meth c A g ig mk a X hg hsize hdg hW hn hp
  have h1 : (headSpec ws rm).pre.before a A.U = true := atoms_intro fun w hw => hws w hw _ _ X.warmed
  have h2 : (Cond.codeWith y bytes maxL ret hh).before a A.U = true := hws _ hcode _ _ X.warmed
  have h3 : (Cond.initialized y.cls).before a A.U = true := hinit _ _ X.warmed
  have h4 : A.cells + (headSpec ws rm).room.cells ≤ R.cells := by rw [show (headSpec ws rm).room.cells = mc from hrc]; exact hp.1
  have h5 : A.slots + (headSpec ws rm).room.slots ≤ R.slots := by rw [show (headSpec ws rm).room.slots = ms from hrs]; exact hp.2.1
  have hPc : Pc a (A.U.calling g mk a) := hblind _ _ _ _ hp.2.2
  obtain ⟨U, Ls, c0, s0⟩ := A
  dsimp only [Pt.U, Pt.locs, Pt.cells, Pt.slots] at h1 h2 h3 h4 h5 X hn hPc ⊢
  obtain ⟨m9, methY, cY, hn9, hmY, hcY, -, hlY, -⟩ := Cond.codeWith_spec h2
  cases Option.some.inj (hn9.symm.trans hn)
  obtain ⟨kY, hkY, -⟩ := className_of_methodNamed hn
  have hinitY : kY.init = .initialized := Cond.initialized_spec (findClass_of_methodNamed hn) hkY h3
  have h : At U g.method c below := by rw [hg]; exact X.here
  have hlocals9 : W9 + (maxL + 11) + (headSpec ws rm).room.locals ≤ R.locals := hlocals
  have happ : (headSpec ws rm).appliesLoose y e.platform (U.calling g mk a) = true :=
    Spec.appliesLoose_calling (g := g) h hdg hn hkY hinitY
      (X.room_calling (g := g) (R' := (headSpec ws rm).room) hsize hmY hcY hframes (by rw [hlY]; omega) h4 h5) h1
  obtain ⟨mid, hmid⟩ := h.above
  have hfr : (U.setTop g).frames = (.java g :: mid) ++ below := by rw [State.frames_setTop' g h.top, hmid]; rfl
  obtain ⟨o, s₂, hsteps, -, hend, hq⟩ := Steps.callFree hM p X.admits X.cas X.clock (acts := []) hfr happ hPc trivial
  have hq' : vx_Q Qc XC mc ms free a (U.calling g mk a) o s₂ := hq
  rw [State.frames_setTop' g h.top] at hend
  obtain ⟨g₀, hg0⟩ := Option.isSome_iff_exists.mp h.top
  obtain ⟨r, hr⟩ := State.topJava?_eq_some.mp hg0
  have hr' : (({ U with heap := s₂.heap, slotsUsed := s₂.slotsUsed } : State).setVm s₂.vm).frames = .java g₀ :: r := hr
  rcases hq' with ⟨hqc, L, hfe, hL⟩ | ⟨q, rfl, E, ce, L, hx, hce, hcv, hcl, hW₂, hsm, hL⟩
  · obtain ⟨⟨v, rfl⟩, hW₂, e2, q2, q3, q4, q5, q6⟩ := id hfe
    have e3 : s₂ = ({ (U.calling g mk a).setFrames s₂.frames with heap := s₂.heap, slotsUsed := s₂.slotsUsed } : State).setVm s₂.vm := by
      have : s₂ = ({ s₂ with vm := (U.calling g mk a).vm } : State).setVm s₂.vm := rfl
      rw [e2] at this
      exact this
    obtain ⟨c₂, i₂, len₂, hc₂, hd₂, hf₂⟩ := hend
    have hW' : U.WarmedH s₂.vm := hW₂
    have hcc : c₂ = c := by
      have h1 : s₂.code? g.method = U.code? g.method := by
        rw [State.code?_eq, State.code?_eq, hW'.alike.method?]
      exact Option.some.inj (hc₂.symm.trans (h1.trans h.code))
    subst hcc
    have hlen : len₂ = len := by rw [hdg] at hd₂; cases hd₂; rfl
    subst hlen
    have hs₂ : s₂ = (({ U with heap := s₂.heap, slotsUsed := s₂.slotsUsed } : State).setVm s₂.vm).setTop { g with pc := g.pc + len₂, stack := v.toList ++ g.stack } := by
      refine e3.trans ?_
      rw [hf₂, State.calling_eq h.top, State.setFrames_setFrames, State.setTop_of_frames _ hr', hr]
      rfl
    have hsame : U.sameButNew ({ U with heap := s₂.heap, slotsUsed := s₂.slotsUsed } : State) L mc ms := by
      refine ⟨?_, q2, q3, q4, q5, q6⟩
      obtain ⟨t, ht, -⟩ := State.frames_cons hr
      show ({ U with heap := s₂.heap, slotsUsed := s₂.slotsUsed } : State) = { U.setFrames U.frames with heap := s₂.heap, slotsUsed := s₂.slotsUsed }
      rw [State.setFrames_self ht]
    subst hg
    refine Or.inl ⟨v, ⟨(({ U with heap := s₂.heap, slotsUsed := s₂.slotsUsed } : State).setVm s₂.vm), Ls ++ L, c0 + mc, s0 + ms⟩,
      ⟨X.admits, X.cas, X.clock, X.frames, X.room, X.hears, X.method, X.code, (X.here.setHeapUsed s₂.heap s₂.slotsUsed).setVm hW'.alike, X.tail, State.WarmedH.trans X.warmed hW', X.limits, X.bytes, X.same.trans (hsame.setVm s.vm)⟩,
      ⟨g, mk, s₂, L, rfl, rfl, hqc, rfl, hL, rfl, rfl⟩, ?_⟩
    show Steps p.tables e below _ ((({ U with heap := s₂.heap, slotsUsed := s₂.slotsUsed } : State).setVm s₂.vm).setTop { g with pc := g.pc + len₂, stack := v.toList ++ g.stack })
    rw [← hs₂]
    exact hsteps
  · obtain ⟨e2, q2, q3, q4, q5, q6⟩ := id hsm
    have e3 : s₂ = ({ (U.calling g mk a).setFrames s₂.frames with heap := s₂.heap, slotsUsed := s₂.slotsUsed } : State).setVm s₂.vm := by
      have : s₂ = ({ s₂ with vm := (U.calling g mk a).vm } : State).setVm s₂.vm := rfl
      rw [e2] at this
      exact this
    have hf₂ : s₂.frames = .throwing q :: .java g :: U.frames.tail := hend
    have hW' : U.WarmedH s₂.vm := hW₂
    have hs₂ : s₂ = ((({ U with heap := s₂.heap, slotsUsed := s₂.slotsUsed } : State).setVm s₂.vm).setTop g).pushFrame (.throwing q) := by
      refine e3.trans ?_
      rw [hf₂, State.calling_eq h.top, State.setFrames_setFrames, State.pushFrame, State.frames_setTop _ hr', State.setTop_of_frames _ hr', State.setFrames_setFrames, hr]
      rfl
    have hsame : U.sameButNew ({ U with heap := s₂.heap, slotsUsed := s₂.slotsUsed } : State) L mc ms := by
      refine ⟨?_, q2, q3, q4, q5, q6⟩
      obtain ⟨t, ht, -⟩ := State.frames_cons hr
      show ({ U with heap := s₂.heap, slotsUsed := s₂.slotsUsed } : State) = { U.setFrames U.frames with heap := s₂.heap, slotsUsed := s₂.slotsUsed }
      rw [State.setFrames_self ht]
    subst hg
    refine Or.inr ⟨q, ⟨(({ U with heap := s₂.heap, slotsUsed := s₂.slotsUsed } : State).setVm s₂.vm), Ls ++ L, c0 + mc, s0 + ms⟩,
      ⟨X.admits, X.cas, X.clock, X.frames, X.room, X.hears, X.method, X.code, (X.here.setHeapUsed s₂.heap s₂.slotsUsed).setVm hW'.alike, X.tail, State.WarmedH.trans X.warmed hW', X.limits, X.bytes, X.same.trans (hsame.setVm s.vm)⟩,
      ⟨g, mk, s₂, L, E, ce, rfl, rfl, hx, hce, hcv, hcl, rfl, hL, rfl, rfl⟩, ?_⟩
    show Steps p.tables e below _ (((({ U with heap := s₂.heap, slotsUsed := s₂.slotsUsed } : State).setVm s₂.vm).setTop g).pushFrame (.throwing q))
    rw [← hs₂]
    exact hsteps
end
variable {p : Program} {l : Launch} {e : Env} {R : Room} {s : State} {m : MethodId} {args : Array Value} {below : List Frame} {meth : Method} {c : Code} {T : State} {H : Heap} {locs : List Loc} {cells slots : Nat}
theorem vx_callVX (X : Stand p l e R s m args below meth c T locs cells slots) (hexec : p.tables.exec = Jvm.exec) {own C : String} {index : Nat} {y : MethodName} {bytes : ByteArray} {maxL : Nat} {ret : Option FieldType} {hh : List (Nat × Nat × Nat × Nat)}
    (hown : s.vm.findClass own = some m.cls) (hlink : (Cond.methodLink own index y).before args s = true) (hinst : (Cond.instanceMethod y).before args s = true) (hsel : (Cond.selects C y y).before args s = true)
    (hcode : (Cond.codeWith y bytes maxL ret hh).before args s = true) (hy : y.cls ≠ "java/lang/invoke/MethodHandle" ∧ y.cls ≠ "java/lang/invoke/VarHandle")
    {W9 : Nat} {Pre : Pt → Array Value → Prop} {Post : Pt → Array Value → Option Value → Pt → Prop} {PostX : Pt → Array Value → Addr → Pt → Prop} (hK : vx_Back l R p e below s args y 3 W9 Pre Post PostX)
    {b : Addr} {cellB : Cell} (hcell : T.heap[b]? = some cellB) (hobj : cellB.vm.isStatics = false) (hcls : s.vm.findClass C = some cellB.cls)
    {g : JFrame} (hg : g.method = m) (hsize : g.locals.size = c.maxLocals) {argsL rest : List Value} (hlen : ∀ sig, parseMethodDescriptor y.desc = some sig → argsL.length = sig.parameters.length)
    (hstack : g.stack = argsL.reverse ++ .ref b :: rest) (hW : 2 * g.monitorRoom + (rest.map fun v => v.category).sum ≤ W9) (hdg : decode c.code g.pc = .ok (.invokevirtual index, 3))
    (hpre : ∀ vm₁, s.WarmedH vm₁ → Pre ⟨T.setVm vm₁, locs, cells, slots⟩ (Value.ref b :: argsL).toArray) :
    (∃ (v : Option Value) (vm₁ : Vm) (B : Pt), s.WarmedH vm₁ ∧ Stand p l e R s m args below meth c B.U B.locs B.cells B.slots ∧ Post ⟨T.setVm vm₁, locs, cells, slots⟩ (Value.ref b :: argsL).toArray v B ∧
      ∀ target, Steps p.tables e below (B.U.setTop { g with pc := g.pc + 3, stack := v.toList ++ rest }) target → Steps p.tables e below (T.setTop g) target) ∨
    (∃ (q : Addr) (vm₁ : Vm) (B : Pt), s.WarmedH vm₁ ∧ Stand p l e R s m args below meth c B.U B.locs B.cells B.slots ∧ PostX ⟨T.setVm vm₁, locs, cells, slots⟩ (Value.ref b :: argsL).toArray q B ∧
      Steps p.tables e below (T.setTop g) ((B.U.setTop { g with stack := rest }).pushFrame (.throwing q))) := by
  obtain ⟨mk, methM, hnamed, hmethM, hstM, habM⟩ := Cond.instanceMethod_spec hinst
  obtain ⟨m8, methM', cM, hn8, hmethM', -, -, -, -, -, -, hsigM⟩ := Cond.codeWith_spec hcode
  cases Option.some.inj (hn8.symm.trans hnamed)
  cases hmethM.symm.trans hmethM'
  obtain ⟨c2, r2, m2, q1, q2, q3, q4, kP, hkP, hkPi⟩ := Cond.selects_spec hsel
  cases hcls.symm.trans q1
  cases (State.methodFound?_of_named hnamed hy).symm.trans q2
  cases hnamed.symm.trans q3
  have hselP : selectMethod e.platform s.vm cellB.cls mk = .method mk := by rw [Launch.admits_selectMethod X.admits]; exact q4
  obtain ⟨vm₁, X₁, hstep₁⟩ := X.invokevirtual hexec hown hlink hnamed hmethM hstM hkP hkPi hy (a := b) (cell := cellB) hcell
    (fun z h => by rw [h] at hobj; cases hobj) hselP hmethM habM hkP hkPi (g := g) hg (argsL := argsL) (rest := rest) (hlen _ hsigM) hstack hdg
  rcases hK m meth c ⟨T.setVm vm₁, locs, cells, slots⟩ { g with stack := rest } (.invokevirtual index) mk (Value.ref b :: argsL).toArray X₁ hg hsize hdg hW (X₁.named hnamed) (hpre vm₁ X₁.warmed) with ⟨v, B, X', hpost, hsteps⟩ | ⟨q, B, X', hpost, hsteps⟩
  · exact Or.inl ⟨v, vm₁, B, X₁.warmed, X', hpost, fun target h => hstep₁ _ fun acts => by rw [doInvoke_state]; exact hsteps.trans h⟩
  · exact Or.inr ⟨q, vm₁, B, X₁.warmed, X', hpost, hstep₁ _ fun acts => by rw [doInvoke_state]; exact hsteps⟩
theorem vx_callSX (X : Stand p l e R s m args below meth c T locs cells slots) (hexec : p.tables.exec = Jvm.exec) {own : String} {index : Nat} {y : MethodName} {bytes : ByteArray} {maxL : Nat} {ret : Option FieldType} {hh : List (Nat × Nat × Nat × Nat)}
    (hown : s.vm.findClass own = some m.cls) (hlink : (Cond.methodLink own index y).before args s = true) (hstat : (Cond.static y).before args s = true) (hinit : (Cond.initialized y.cls).before args s = true)
    (hcode : (Cond.codeWith y bytes maxL ret hh).before args s = true) (hy : y.cls ≠ "java/lang/invoke/MethodHandle" ∧ y.cls ≠ "java/lang/invoke/VarHandle")
    {W9 : Nat} {Pre : Pt → Array Value → Prop} {Post : Pt → Array Value → Option Value → Pt → Prop} {PostX : Pt → Array Value → Addr → Pt → Prop} (hK : vx_Back l R p e below s args y 3 W9 Pre Post PostX)
    {g : JFrame} (hg : g.method = m) (hsize : g.locals.size = c.maxLocals) {argsL rest : List Value} (hlen : ∀ sig, parseMethodDescriptor y.desc = some sig → argsL.length = sig.parameters.length)
    (hstack : g.stack = argsL.reverse ++ rest) (hW : 2 * g.monitorRoom + (rest.map fun v => v.category).sum ≤ W9) (hdg : decode c.code g.pc = .ok (.invokestatic index, 3))
    (hpre : ∀ vm₁, s.WarmedH vm₁ → Pre ⟨T.setVm vm₁, locs, cells, slots⟩ argsL.toArray) :
    (∃ (v : Option Value) (vm₁ : Vm) (B : Pt), s.WarmedH vm₁ ∧ Stand p l e R s m args below meth c B.U B.locs B.cells B.slots ∧ Post ⟨T.setVm vm₁, locs, cells, slots⟩ argsL.toArray v B ∧
      ∀ target, Steps p.tables e below (B.U.setTop { g with pc := g.pc + 3, stack := v.toList ++ rest }) target → Steps p.tables e below (T.setTop g) target) ∨
    (∃ (q : Addr) (vm₁ : Vm) (B : Pt), s.WarmedH vm₁ ∧ Stand p l e R s m args below meth c B.U B.locs B.cells B.slots ∧ PostX ⟨T.setVm vm₁, locs, cells, slots⟩ argsL.toArray q B ∧
      Steps p.tables e below (T.setTop g) ((B.U.setTop { g with stack := rest }).pushFrame (.throwing q))) := by
  obtain ⟨mk, methM, cM, hnamed, hmethM, -, -, -, -, -, -, hsigM⟩ := Cond.codeWith_spec hcode
  have hstatic : methM.isStatic = true := Cond.static_spec hnamed hmethM hstat
  obtain ⟨kP, hkP, -⟩ := className_of_methodNamed hnamed
  have hinitP : kP.init = .initialized := Cond.initialized_spec (findClass_of_methodNamed hnamed) hkP hinit
  obtain ⟨vm₁, X₁, hstep₁⟩ := X.invokestatic hexec hown hlink hnamed hmethM hstatic hkP hinitP hy (g := g) hg (argsL := argsL) (rest := rest) (hlen _ hsigM) hstack hdg
  rcases hK m meth c ⟨T.setVm vm₁, locs, cells, slots⟩ { g with stack := rest } (.invokestatic index) mk argsL.toArray X₁ hg hsize hdg hW (X₁.named hnamed) (hpre vm₁ X₁.warmed) with ⟨v, B, X', hpost, hsteps⟩ | ⟨q, B, X', hpost, hsteps⟩
  · exact Or.inl ⟨v, vm₁, B, X₁.warmed, X', hpost, fun target h => hstep₁ _ fun acts => by rw [doInvoke_state]; exact hsteps.trans h⟩
  · exact Or.inr ⟨q, vm₁, B, X₁.warmed, X', hpost, hstep₁ _ fun acts => by rw [doInvoke_state]; exact hsteps⟩
theorem vx_callVW (X : Stand p l e R s m args below meth c T locs cells slots) (hexec : p.tables.exec = Jvm.exec) {own C : String} {index : Nat} {y : MethodName} {bytes : ByteArray} {maxL : Nat} {ret : Option FieldType} {hh : List (Nat × Nat × Nat × Nat)}
    (hown : s.vm.findClass own = some m.cls) (hlink : (Cond.methodLink own index y).before args s = true) (hinst : (Cond.instanceMethod y).before args s = true) (hsel : (Cond.selects C y y).before args s = true)
    (hcode : (Cond.codeWith y bytes maxL ret hh).before args s = true) (hy : y.cls ≠ "java/lang/invoke/MethodHandle" ∧ y.cls ≠ "java/lang/invoke/VarHandle")
    {W9 : Nat} {Pre : Pt → Array Value → Prop} {Post : Pt → Array Value → Option Value → Pt → Prop} (hK : Back l R p e below s args y 3 W9 Pre Post)
    {b : Addr} {cellB : Cell} (hcell : T.heap[b]? = some cellB) (hobj : cellB.vm.isStatics = false) (hcls : s.vm.findClass C = some cellB.cls)
    {g : JFrame} (hg : g.method = m) (hsize : g.locals.size = c.maxLocals) {argsL rest : List Value} (hlen : ∀ sig, parseMethodDescriptor y.desc = some sig → argsL.length = sig.parameters.length)
    (hstack : g.stack = argsL.reverse ++ .ref b :: rest) (hW : 2 * g.monitorRoom + (rest.map fun v => v.category).sum ≤ W9) (hdg : decode c.code g.pc = .ok (.invokevirtual index, 3))
    (hpre : ∀ vm₁, s.WarmedH vm₁ → Pre ⟨T.setVm vm₁, locs, cells, slots⟩ (Value.ref b :: argsL).toArray) :
    ∃ (v : Option Value) (vm₁ : Vm) (B : Pt), s.WarmedH vm₁ ∧ Stand p l e R s m args below meth c B.U B.locs B.cells B.slots ∧ Post ⟨T.setVm vm₁, locs, cells, slots⟩ (Value.ref b :: argsL).toArray v B ∧
      ∀ target, Steps p.tables e below (B.U.setTop { g with pc := g.pc + 3, stack := v.toList ++ rest }) target → Steps p.tables e below (T.setTop g) target := by
  obtain ⟨mk, methM, hnamed, hmethM, hstM, habM⟩ := Cond.instanceMethod_spec hinst
  obtain ⟨m8, methM', cM, hn8, hmethM', -, -, -, -, -, -, hsigM⟩ := Cond.codeWith_spec hcode
  cases Option.some.inj (hn8.symm.trans hnamed)
  cases hmethM.symm.trans hmethM'
  obtain ⟨c2, r2, m2, q1, q2, q3, q4, kP, hkP, hkPi⟩ := Cond.selects_spec hsel
  cases hcls.symm.trans q1
  cases (State.methodFound?_of_named hnamed hy).symm.trans q2
  cases hnamed.symm.trans q3
  have hselP : selectMethod e.platform s.vm cellB.cls mk = .method mk := by rw [Launch.admits_selectMethod X.admits]; exact q4
  obtain ⟨vm₁, X₁, hstep₁⟩ := X.invokevirtual hexec hown hlink hnamed hmethM hstM hkP hkPi hy (a := b) (cell := cellB) hcell
    (fun z h => by rw [h] at hobj; cases hobj) hselP hmethM habM hkP hkPi (g := g) hg (argsL := argsL) (rest := rest) (hlen _ hsigM) hstack hdg
  obtain ⟨v, B, X', hpost, hsteps⟩ := hK m meth c ⟨T.setVm vm₁, locs, cells, slots⟩ { g with stack := rest } (.invokevirtual index) mk (Value.ref b :: argsL).toArray X₁ hg hsize hdg hW (X₁.named hnamed) (hpre vm₁ X₁.warmed)
  exact ⟨v, vm₁, B, X₁.warmed, X', hpost, fun target h => hstep₁ _ fun acts => by rw [doInvoke_state]; exact hsteps.trans h⟩
abbrev vx_CVW (R : Room) (s : State) (args : Array Value) (own C : String) (index : Nat) (y : MethodName) (bytes : ByteArray) (maxL : Nat) (ret : Option FieldType) (hh : List (Nat × Nat × Nat × Nat)) (ws : List Cond) (rm : Room) (mc ms n : Nat) : Prop :=
  (rm.cells = mc ∧ rm.slots = ms ∧ rm.frames + 1 ≤ R.frames ∧ 8 + (maxL + 11) + rm.locals ≤ R.locals ∧ (∀ w ∈ ws, ∀ (a' : Array Value) (U : State), s.WarmedH U.vm → w.before a' U = true) ∧ Cond.codeWith y bytes maxL ret hh ∈ ws) ∧
  (Cond.codeWith y bytes maxL ret hh).before args s = true ∧ (Cond.initialized y.cls).before args s = true ∧ (y.cls ≠ "java/lang/invoke/MethodHandle" ∧ y.cls ≠ "java/lang/invoke/VarHandle") ∧
  (∀ sig, parseMethodDescriptor y.desc = some sig → n = sig.parameters.length) ∧ (Cond.methodLink own index y).before args s = true ∧ (Cond.instanceMethod y).before args s = true ∧ (Cond.selects C y y).before args s = true
theorem vx_cwVW {own C : String} {index maxL mc ms : Nat} {y : MethodName} {bytes : ByteArray} {ret : Option FieldType} {hh : List (Nat × Nat × Nat × Nat)} {Ts ws ws' : List Cond} {rm : Room} (n : Nat) (ht : ∀ w ∈ Ts, w.before args s = true) (hT : GoodIn Ts (wsV own index C y ws)) (hw : ws = Cond.codeWith y bytes maxL ret hh :: ws') (hrc : rm.cells = mc) (hrs : rm.slots = ms)
    (hd : y.cls = C ∧ y.cls ≠ "java/lang/invoke/MethodHandle" ∧ y.cls ≠ "java/lang/invoke/VarHandle" ∧ (parseMethodDescriptor y.desc).map (fun d => d.parameters.length) = some n) (hR : rm.frames + 1 ≤ R.frames ∧ 8 + (maxL + 11) + rm.locals ≤ R.locals) :
    vx_CVW R s args own C index y bytes maxL ret hh ws rm mc ms n := by
  obtain ⟨hC, hd⟩ := hd
  subst hC
  have ok : ∀ w ∈ wsV own index y.cls y ws, w.before args s = true := fun w h => ht w (hT w h).1
  have hG : GoodIn Ts ws := fun w h => hT w (by unfold wsV; exact List.mem_append_right _ h)
  have hc : Cond.codeWith y bytes maxL ret hh ∈ ws := by rw [hw]; exact List.mem_cons_self
  refine ⟨⟨hrc, hrs, hR.1, hR.2, pay_in ht hG, hc⟩, ht _ (hG _ hc).1, ok _ (by simp [wsV]), ⟨hd.1, hd.2.1⟩, fun sig h => ?_, ok _ (by simp [wsV]), ok _ (by simp [wsV]), ok _ (by simp [wsV])⟩
  have h2 := hd.2.2
  rw [h] at h2
  exact (Option.some.inj h2).symm
theorem vx_runVW {y : MethodName} {bytes cc : ByteArray} {maxL nL mc ms n index : Nat} {ret : Option FieldType} {hh : List (Nat × Nat × Nat × Nat)} {ws : List Cond} {rm : Room} {Pc : Array Value → State → Prop} {Qc : Array Value → State → Outcome → State → Prop} {free : Addr → Prop} {Ts : List Cond} {own C : String} {b : Addr} {As rest : List Value} {g : JFrame}
    (S : CallFix p m c cc nL s args Ts own) (hM : Met l y ws rm Pc Qc mc ms free) (cw : vx_CVW R s args own C index y bytes maxL ret hh ws rm mc ms n) (hp : PreV s H C b Pc As)
    (hg : g.method = m) (hn : As.length = n) (hsize : g.locals.size = nL) (hstack : g.stack = As.reverse ++ .ref b :: rest) (hW : 2 * g.monitorRoom + (rest.map fun v => v.category).sum ≤ 8) (hdg : decode cc g.pc = .ok (.invokevirtual index, 3)) (hf : cells + mc ≤ R.cells ∧ slots + ms ≤ R.slots) :
    va_Run p l e R s m args below meth c H locs cells slots mc ms g rest (Qc (Value.ref b :: As).toArray) free := by
  obtain ⟨⟨hrc, hrs, hfr, hlo, hws, hcw⟩, hcode, hini, hy, hlen, hl, hin, hse⟩ := cw
  have hK : Back l R p e below s args y 3 8 (PreOf R mc ms Pc) (PostOf Qc mc ms free) := va_backW (hh := hh) (bytes := bytes) (maxL := maxL) (ret := ret) hM hp.1 hrc hrs hfr hlo hws hcw (fun a' U hW => word_at hW (Or.inl (by first | rfl | simp [Cond.onTables, Cond.keeps, Cond.steady])) hini)
  obtain ⟨hx, hb, hml, ho, -⟩ := S
  obtain ⟨-, ⟨cellB, hcB, hoB, hclB⟩, hPc⟩ := hp
  intro T hT X
  obtain ⟨v, vm₁, ⟨U', l2, c2, s2⟩, hW₁, X', ⟨g', mk, t, L, e1, e2, hq, h1, hL, h2, h3⟩, st⟩ := vx_callVW X hx (C := C) (hh := hh) (bytes := bytes) (maxL := maxL) (ret := ret) ho hl hin hse hcode hy hK (by rw [hT]; exact hcB) hoB hclB hg (hsize.trans hml.symm) (argsL := As) (rest := rest) (fun sig h => hn.trans (hlen sig h)) hstack hW (by rw [hb]; exact hdg)
    (fun vm₁ hW₁ => ⟨hf.1, hf.2, hPc (T.setVm vm₁) hT hW₁⟩)
  dsimp only [Pt.U, Pt.locs, Pt.cells, Pt.slots] at X' e1 e2 h1 h2 h3 st
  subst h1; subst h2; subst h3
  exact ⟨v, (T.setVm vm₁).calling g' mk (Value.ref b :: As).toArray, t, U', L, hT, X', hL, e1, e2, hq, st⟩
section
variable {y : MethodName} {bytes cc : ByteArray} {maxL nL mc ms n index : Nat} {ret : Option FieldType} {ws : List Cond} {rm : Room} {Pc : Array Value → State → Prop} {Qc : Array Value → State → Outcome → State → Prop} {XC : String → State → State → Prop} {free : Addr → Prop} {Ts : List Cond} {own C : String} {b : Addr} {As rest : List Value} {g : JFrame}
theorem vx_runVX {hh : List (Nat × Nat × Nat × Nat)} (S : CallFix p m c cc nL s args Ts own) (hM : vx_Met l y ws rm Pc Qc XC mc ms free) (cw : vx_CVW R s args own C index y bytes maxL ret hh ws rm mc ms n) (hp : PreV s H C b Pc As)
    (hg : g.method = m) (hn : As.length = n) (hsize : g.locals.size = nL) (hstack : g.stack = As.reverse ++ .ref b :: rest) (hW : 2 * g.monitorRoom + (rest.map fun v => v.category).sum ≤ 8) (hdg : decode cc g.pc = .ok (.invokevirtual index, 3)) (hf : cells + mc ≤ R.cells ∧ slots + ms ≤ R.slots) :
    vx_Run p l e R s m args below meth c H locs cells slots mc ms g rest (Qc (Value.ref b :: As).toArray) XC free := by
  obtain ⟨⟨hrc, hrs, hfr, hlo, hws, hcw⟩, hcode, hini, hy, hlen, hl, hin, hse⟩ := cw
  have hK : vx_Back l R p e below s args y 3 8 (PreOf R mc ms Pc) (PostOf Qc mc ms free) (vx_Post XC mc ms free) := vx_backW (hh := hh) (bytes := bytes) (maxL := maxL) (ret := ret) hM hp.1 hrc hrs hfr hlo hws hcw (fun a' U hW => word_at hW (Or.inl (by first | rfl | simp [Cond.onTables, Cond.keeps, Cond.steady])) hini)
  obtain ⟨hx, hb, hml, ho, -⟩ := S
  obtain ⟨-, ⟨cellB, hcB, hoB, hclB⟩, hPc⟩ := hp
  intro T hT X
  rcases vx_callVX X hx (C := C) (hh := hh) (bytes := bytes) (maxL := maxL) (ret := ret) ho hl hin hse hcode hy hK (by rw [hT]; exact hcB) hoB hclB hg (hsize.trans hml.symm) (argsL := As) (rest := rest) (fun sig h => hn.trans (hlen sig h)) hstack hW (by rw [hb]; exact hdg)
    (fun vm₁ hW₁ => ⟨hf.1, hf.2, hPc (T.setVm vm₁) hT hW₁⟩) with ⟨v, vm₁, ⟨U', l2, c2, s2⟩, hW₁, X', ⟨g', mk, t, L, e1, e2, hq, h1, hL, h2, h3⟩, st⟩ | ⟨q, vm₁, ⟨U', l2, c2, s2⟩, hW₁, X', ⟨g', mk, t, L, E, ce, e1, e2, hq, hce, hcv, hcl, h1, hL, h2, h3⟩, st⟩
  · dsimp only [Pt.U, Pt.locs, Pt.cells, Pt.slots] at X' e1 e2 h1 h2 h3 st
    subst h1; subst h2; subst h3
    exact Or.inl ⟨v, (T.setVm vm₁).calling g' mk (Value.ref b :: As).toArray, t, U', L, hT, X', hL, e1, e2, hq, st⟩
  · dsimp only [Pt.U, Pt.locs, Pt.cells, Pt.slots] at X' e1 e2 h1 h2 h3 st hcl
    subst h1; subst h2; subst h3
    exact Or.inr ⟨q, (T.setVm vm₁).calling g' mk (Value.ref b :: As).toArray, t, U', L, E, ce, hT, X', hL, e1, e2, hq, hce, hcv, vx_cls hW₁ hcl, st⟩
theorem vx_runSX {hh : List (Nat × Nat × Nat × Nat)} (S : CallFix p m c cc nL s args Ts own) (hM : vx_Met l y ws rm Pc Qc XC mc ms free) (cw : vx_CSW R s args own index y bytes maxL ret hh ws rm mc ms n) (hp : PreS s H Pc As)
    (hg : g.method = m) (hn : As.length = n) (hsize : g.locals.size = nL) (hstack : g.stack = As.reverse ++ rest) (hW : 2 * g.monitorRoom + (rest.map fun v => v.category).sum ≤ 8) (hdg : decode cc g.pc = .ok (.invokestatic index, 3)) (hf : cells + mc ≤ R.cells ∧ slots + ms ≤ R.slots) :
    vx_Run p l e R s m args below meth c H locs cells slots mc ms g rest (Qc As.toArray) XC free := by
  obtain ⟨⟨hrc, hrs, hfr, hlo, hws, hcw⟩, hcode, hini, hy, hlen, hl, hstt⟩ := cw
  have hK : vx_Back l R p e below s args y 3 8 (PreOf R mc ms Pc) (PostOf Qc mc ms free) (vx_Post XC mc ms free) := vx_backW (hh := hh) (bytes := bytes) (maxL := maxL) (ret := ret) hM hp.1 hrc hrs hfr hlo hws hcw (fun a' U hW => word_at hW (Or.inl (by first | rfl | simp [Cond.onTables, Cond.keeps, Cond.steady])) hini)
  obtain ⟨hx, hb, hml, ho, -⟩ := S
  intro T hT X
  rcases vx_callSX X hx (hh := hh) (bytes := bytes) (maxL := maxL) (ret := ret) ho hl hstt hini hcode hy hK hg (hsize.trans hml.symm) (argsL := As) (rest := rest) (fun sig h => hn.trans (hlen sig h)) hstack hW (by rw [hb]; exact hdg)
    (fun vm₁ hW₁ => ⟨hf.1, hf.2, hp.2 (T.setVm vm₁) hT hW₁⟩) with ⟨v, vm₁, ⟨U', l2, c2, s2⟩, hW₁, X', ⟨g', mk, t, L, e1, e2, hq, h1, hL, h2, h3⟩, st⟩ | ⟨q, vm₁, ⟨U', l2, c2, s2⟩, hW₁, X', ⟨g', mk, t, L, E, ce, e1, e2, hq, hce, hcv, hcl, h1, hL, h2, h3⟩, st⟩
  · dsimp only [Pt.U, Pt.locs, Pt.cells, Pt.slots] at X' e1 e2 h1 h2 h3 st
    subst h1; subst h2; subst h3
    exact Or.inl ⟨v, (T.setVm vm₁).calling g' mk As.toArray, t, U', L, hT, X', hL, e1, e2, hq, st⟩
  · dsimp only [Pt.U, Pt.locs, Pt.cells, Pt.slots] at X' e1 e2 h1 h2 h3 st hcl
    subst h1; subst h2; subst h3
    exact Or.inr ⟨q, (T.setVm vm₁).calling g' mk As.toArray, t, U', L, E, ce, hT, X', hL, e1, e2, hq, hce, hcv, vx_cls hW₁ hcl, st⟩
end
end VXH
theorem vx_ofWH {l : Launch} {y : MethodName} {ws ws' : List Cond} {rm : Room} {Pc : Array Value → State → Prop} {Qc : Array Value → State → Outcome → State → Prop} {XC : String → State → State → Prop} {mc ms : Nat} {free : Addr → Prop} {cc : ByteArray} {maxL : Nat} {ret : Option FieldType} {hh : List (Nat × Nat × Nat × Nat)}
    (hy : plainName y.cls = true) (hw : ws = Cond.codeWith y cc maxL ret hh :: ws')
    (body : ∀ p e s m args below meth c s₁, BodyLoose p l y (headSpec ws rm) cc maxL ret e s m args below meth c s₁ → c.maxLocals = maxL → Pc args s →
      W p l e (headSpec ws rm).room s m args below meth c s.heap [] 0 0 (vx_MQ below Qc XC args s mc ms free) (entryFrame m args maxL)) : vx_Met l y ws rm Pc Qc XC mc ms free := by
  refine MetFree.of_bodyS (code := cc) (maxLocals := maxL) (ret := ret) hy ?_ ?_
  · intro args s m h hn
    obtain ⟨m9, meth, c, hn9, h1, h2, h3, h4, -, h5, h6, -⟩ := Cond.codeWith_spec (atoms_spec (ws := ws) h _ (by rw [hw]; exact List.mem_cons_self))
    cases hn.symm.trans hn9
    exact ⟨meth, c, h1, h2, h3, h4, h5, h6⟩
  · intro p e s m args below meth c s₁ B hml hP _
    have hh0 : s₁.heap = s.heap := by rw [B.state]; rfl
    obtain ⟨t, a1, o, b1, b2, b3⟩ := body p e s m args below meth c s₁ B hml hP s₁ hh0 (Stand.of_body B)
    exact ⟨t, o, a1, b1, b2, b3⟩
/-! ===== END ===== -/
end
section
/-! ===== BEGIN printed: names, fields, word lists, decode rows ===== -/
def RX0 : String := "ExamGarden"
def TX0 : u_T := fun k => match k with
  | 0 => ("ExamGarden", "placeCount", "I", false)
  | 1 => ("ExamGarden", "studentCount", "I", false)
  | 2 => ("ExamGarden", "gradedCount", "I", false)
  | 3 => ("ExamGarden", "gradeSum", "I", false)
  | 4 => ("ExamGarden", "examBits", "J", false)
  | 5 => ("ExamGarden", "lowestGrades", "[I", true)
  | 6 => ("ExamGarden", "highestGrades", "[I", true)
  | 7 => ("ExamGarden", "lefts", "[I", true)
  | 8 => ("ExamGarden", "rights", "[I", true)
  | 9 => ("ExamGarden", "weights", "[I", true)
  | 10 => ("ExamGarden", "grades", "[I", true)
  | 11 => ("ExamGarden", "sureGrades", "[I", true)
  | 12 => ("ExamGarden", "hopes", "[I", true)
  | 13 => ("ExamGarden", "hindsights", "[I", true)
  | 14 => ("ExamGarden", "reachedBits", "[J", true)
  | 15 => ("ExamGarden", "standing", "[I", true)
  | 16 => ("ExamGarden", "passedCounts", "[I", true)
  | _ => ("ExamGarden", "passedForks", "[I", true)
def tyX0 : Nat → FieldType := fun k => match k with
  | 0 => .int
  | 1 => .int
  | 2 => .int
  | 3 => .int
  | 4 => .long
  | 5 => .array .int
  | 6 => .array .int
  | 7 => .array .int
  | 8 => .array .int
  | 9 => .array .int
  | 10 => .array .int
  | 11 => .array .int
  | 12 => .array .int
  | 13 => .array .int
  | 14 => .array .long
  | 15 => .array .int
  | 16 => .array .int
  | _ => .array .int
abbrev wsX00 : List Cond := u_ws RX0 TX0 18
theorem nmX0 : ∀ a, a < 18 → ∀ b, b < 18 → a ≠ b → (TX0 a).2.1 ≠ (TX0 b).2.1 := by decide +kernel
theorem tyX0_ok : ∀ k, k < 18 → parseFieldDescriptor (TX0 k).2.2.1 = some (tyX0 k) := by decide +kernel
abbrev cX0_init : ByteArray := prog_1_method_1_code
def yX0_init : MethodName := ⟨RX0, "<init>", "()V"⟩
abbrev cX0_addExam : ByteArray := prog_1_method_2_code
def yX0_addExam : MethodName := ⟨RX0, "addExam", "(II)I"⟩
abbrev cX0_addFork : ByteArray := prog_1_method_3_code
def yX0_addFork : MethodName := ⟨RX0, "addFork", "(III)I"⟩
abbrev cX0_grade : ByteArray := prog_1_method_4_code
def yX0_grade : MethodName := ⟨RX0, "grade", "(II)I"⟩
abbrev cX0_weigh : ByteArray := prog_1_method_5_code
def yX0_weigh : MethodName := ⟨RX0, "weigh", "(II)I"⟩
abbrev cX0_enroll : ByteArray := prog_1_method_6_code
def yX0_enroll : MethodName := ⟨RX0, "enroll", "(I)I"⟩
abbrev cX0_turn : ByteArray := prog_1_method_7_code
def yX0_turn : MethodName := ⟨RX0, "turn", "(IZ)I"⟩
abbrev cX0_goBack : ByteArray := prog_1_method_8_code
def yX0_goBack : MethodName := ⟨RX0, "goBack", "(I)I"⟩
abbrev cX0_follow : ByteArray := prog_1_method_9_code
def yX0_follow : MethodName := ⟨RX0, "follow", "(I)I"⟩
abbrev cX0_places : ByteArray := prog_1_method_10_code
def yX0_places : MethodName := ⟨RX0, "places", "()I"⟩
abbrev cX0_exams : ByteArray := prog_1_method_11_code
def yX0_exams : MethodName := ⟨RX0, "exams", "()I"⟩
abbrev cX0_graded : ByteArray := prog_1_method_12_code
def yX0_graded : MethodName := ⟨RX0, "graded", "()I"⟩
abbrev cX0_students : ByteArray := prog_1_method_13_code
def yX0_students : MethodName := ⟨RX0, "students", "()I"⟩
abbrev cX0_atExams : ByteArray := prog_1_method_14_code
def yX0_atExams : MethodName := ⟨RX0, "atExams", "()I"⟩
abbrev cX0_isExam : ByteArray := prog_1_method_15_code
def yX0_isExam : MethodName := ⟨RX0, "isExam", "(I)Z"⟩
abbrev cX0_isGraded : ByteArray := prog_1_method_16_code
def yX0_isGraded : MethodName := ⟨RX0, "isGraded", "(I)Z"⟩
abbrev cX0_gradeOf : ByteArray := prog_1_method_17_code
def yX0_gradeOf : MethodName := ⟨RX0, "gradeOf", "(I)I"⟩
abbrev cX0_leftOf : ByteArray := prog_1_method_18_code
def yX0_leftOf : MethodName := ⟨RX0, "leftOf", "(I)I"⟩
abbrev cX0_rightOf : ByteArray := prog_1_method_19_code
def yX0_rightOf : MethodName := ⟨RX0, "rightOf", "(I)I"⟩
abbrev cX0_weightOf : ByteArray := prog_1_method_20_code
def yX0_weightOf : MethodName := ⟨RX0, "weightOf", "(I)I"⟩
abbrev cX0_placeOf : ByteArray := prog_1_method_21_code
def yX0_placeOf : MethodName := ⟨RX0, "placeOf", "(I)I"⟩
abbrev cX0_passedBy : ByteArray := prog_1_method_22_code
def yX0_passedBy : MethodName := ⟨RX0, "passedBy", "(I)I"⟩
abbrev cX0_sureGrade : ByteArray := prog_1_method_23_code
def yX0_sureGrade : MethodName := ⟨RX0, "sureGrade", "(I)I"⟩
abbrev cX0_hope : ByteArray := prog_1_method_24_code
def yX0_hope : MethodName := ⟨RX0, "hope", "(I)I"⟩
abbrev cX0_reaches : ByteArray := prog_1_method_25_code
def yX0_reaches : MethodName := ⟨RX0, "reaches", "(II)Z"⟩
abbrev cX0_examsFrom : ByteArray := prog_1_method_26_code
def yX0_examsFrom : MethodName := ⟨RX0, "examsFrom", "(I)I"⟩
abbrev cX0_risk : ByteArray := prog_1_method_27_code
def yX0_risk : MethodName := ⟨RX0, "risk", "(IZ)I"⟩
abbrev cX0_planTurnsRight : ByteArray := prog_1_method_28_code
def yX0_planTurnsRight : MethodName := ⟨RX0, "planTurnsRight", "(I)Z"⟩
abbrev cX0_planLeadsTo : ByteArray := prog_1_method_29_code
def yX0_planLeadsTo : MethodName := ⟨RX0, "planLeadsTo", "(I)I"⟩
abbrev cX0_riskiestFork : ByteArray := prog_1_method_30_code
def yX0_riskiestFork : MethodName := ⟨RX0, "riskiestFork", "()I"⟩
abbrev cX0_hindsight : ByteArray := prog_1_method_31_code
def yX0_hindsight : MethodName := ⟨RX0, "hindsight", "(I)I"⟩
abbrev cX0_regretOf : ByteArray := prog_1_method_32_code
def yX0_regretOf : MethodName := ⟨RX0, "regretOf", "(I)I"⟩
abbrev cX0_worstFork : ByteArray := prog_1_method_33_code
def yX0_worstFork : MethodName := ⟨RX0, "worstFork", "(I)I"⟩
abbrev cX0_allRegret : ByteArray := prog_1_method_34_code
def yX0_allRegret : MethodName := ⟨RX0, "allRegret", "()I"⟩
abbrev cX0_meanGrade : ByteArray := prog_1_method_35_code
def yX0_meanGrade : MethodName := ⟨RX0, "meanGrade", "()D"⟩
abbrev cX0_digest : ByteArray := prog_1_method_36_code
def yX0_digest : MethodName := ⟨RX0, "digest", "()J"⟩
abbrev cX0_mixPlace : ByteArray := prog_1_method_37_code
def yX0_mixPlace : MethodName := ⟨RX0, "mixPlace", "(JI)J"⟩
abbrev cX0_mix : ByteArray := prog_1_method_38_code
def yX0_mix : MethodName := ⟨RX0, "mix", "(JI)J"⟩
abbrev cX0_requireRoom : ByteArray := prog_1_method_39_code
def yX0_requireRoom : MethodName := ⟨RX0, "requireRoom", "()V"⟩
abbrev cX0_requirePlace : ByteArray := prog_1_method_40_code
def yX0_requirePlace : MethodName := ⟨RX0, "requirePlace", "(I)V"⟩
abbrev cX0_requireExam : ByteArray := prog_1_method_41_code
def yX0_requireExam : MethodName := ⟨RX0, "requireExam", "(I)V"⟩
abbrev cX0_requireFork : ByteArray := prog_1_method_42_code
def yX0_requireFork : MethodName := ⟨RX0, "requireFork", "(I)V"⟩
abbrev cX0_requireWeight : ByteArray := prog_1_method_43_code
def yX0_requireWeight : MethodName := ⟨RX0, "requireWeight", "(I)V"⟩
abbrev cX0_requireStudent : ByteArray := prog_1_method_44_code
def yX0_requireStudent : MethodName := ⟨RX0, "requireStudent", "(I)V"⟩
abbrev cX0_requireGraded : ByteArray := prog_1_method_45_code
def yX0_requireGraded : MethodName := ⟨RX0, "requireGraded", "(I)V"⟩
abbrev cX0_holdsExam : ByteArray := prog_1_method_46_code
def yX0_holdsExam : MethodName := ⟨RX0, "holdsExam", "(I)Z"⟩
abbrev cX0_hasGrade : ByteArray := prog_1_method_47_code
def yX0_hasGrade : MethodName := ⟨RX0, "hasGrade", "(I)Z"⟩
abbrev cX0_settleExam : ByteArray := prog_1_method_48_code
def yX0_settleExam : MethodName := ⟨RX0, "settleExam", "(I)V"⟩
abbrev cX0_settleFork : ByteArray := prog_1_method_49_code
def yX0_settleFork : MethodName := ⟨RX0, "settleFork", "(I)V"⟩
abbrev cX0_settleGreater : ByteArray := prog_1_method_50_code
def yX0_settleGreater : MethodName := ⟨RX0, "settleGreater", "([II)V"⟩
abbrev cX0_settleForksAfter : ByteArray := prog_1_method_51_code
def yX0_settleForksAfter : MethodName := ⟨RX0, "settleForksAfter", "(I)V"⟩
abbrev cX0_pathFrom : ByteArray := prog_1_method_52_code
def yX0_pathFrom : MethodName := ⟨RX0, "pathFrom", "(IZ)I"⟩
abbrev cX0_riskOfPath : ByteArray := prog_1_method_53_code
def yX0_riskOfPath : MethodName := ⟨RX0, "riskOfPath", "(IZ)I"⟩
abbrev cX0_plansRight : ByteArray := prog_1_method_54_code
def yX0_plansRight : MethodName := ⟨RX0, "plansRight", "(I)Z"⟩
abbrev cX0_smallerRisk : ByteArray := prog_1_method_55_code
def yX0_smallerRisk : MethodName := ⟨RX0, "smallerRisk", "(I)I"⟩
abbrev cX0_walk : ByteArray := prog_1_method_56_code
def yX0_walk : MethodName := ⟨RX0, "walk", "(IZ)V"⟩
abbrev cX0_passedFork : ByteArray := prog_1_method_57_code
def yX0_passedFork : MethodName := ⟨RX0, "passedFork", "(II)I"⟩
abbrev cX0_regretOfStep : ByteArray := prog_1_method_58_code
def yX0_regretOfStep : MethodName := ⟨RX0, "regretOfStep", "(II)I"⟩
abbrev cX0_regretOfAll : ByteArray := prog_1_method_59_code
def yX0_regretOfAll : MethodName := ⟨RX0, "regretOfAll", "(I)I"⟩
abbrev cX0_at : ByteArray := prog_1_method_60_code
def yX0_at : MethodName := ⟨RX0, "at", "([II)I"⟩
abbrev cX0_put : ByteArray := prog_1_method_61_code
def yX0_put : MethodName := ⟨RX0, "put", "([III)V"⟩
abbrev cX0_bitsAt : ByteArray := prog_1_method_62_code
def yX0_bitsAt : MethodName := ⟨RX0, "bitsAt", "([JI)J"⟩
abbrev cX0_putBits : ByteArray := prog_1_method_63_code
def yX0_putBits : MethodName := ⟨RX0, "putBits", "([JIJ)V"⟩
abbrev cX0_bitOf : ByteArray := prog_1_method_64_code
def yX0_bitOf : MethodName := ⟨RX0, "bitOf", "(I)J"⟩
def RX1 : String := "ExamGardenModel"
def TX1 : u_T := fun k => match k with
  | 0 => ("ExamGardenModel", "thrown", "I", false)
  | 1 => ("ExamGardenModel", "places", "I", false)
  | 2 => ("ExamGardenModel", "students", "I", false)
  | 3 => ("ExamGardenModel", "forks", "[Z", true)
  | 4 => ("ExamGardenModel", "one", "[I", true)
  | 5 => ("ExamGardenModel", "other", "[I", true)
  | 6 => ("ExamGardenModel", "third", "[I", true)
  | 7 => ("ExamGardenModel", "reach", "[J", true)
  | 8 => ("ExamGardenModel", "sure", "[I", true)
  | 9 => ("ExamGardenModel", "hopes", "[I", true)
  | 10 => ("ExamGardenModel", "stands", "[I", true)
  | 11 => ("ExamGardenModel", "passed", "[I", true)
  | _ => ("ExamGardenModel", "ways", "[I", true)
def tyX1 : Nat → FieldType := fun k => match k with
  | 0 => .int
  | 1 => .int
  | 2 => .int
  | 3 => .array .boolean
  | 4 => .array .int
  | 5 => .array .int
  | 6 => .array .int
  | 7 => .array .long
  | 8 => .array .int
  | 9 => .array .int
  | 10 => .array .int
  | 11 => .array .int
  | _ => .array .int
abbrev wsX10 : List Cond := u_ws RX1 TX1 13
theorem nmX1 : ∀ a, a < 13 → ∀ b, b < 13 → a ≠ b → (TX1 a).2.1 ≠ (TX1 b).2.1 := by decide +kernel
theorem tyX1_ok : ∀ k, k < 13 → parseFieldDescriptor (TX1 k).2.2.1 = some (tyX1 k) := by decide +kernel
abbrev cX1_init : ByteArray := prog_3_method_1_code
def yX1_init : MethodName := ⟨RX1, "<init>", "()V"⟩
abbrev cX1_thrown : ByteArray := prog_3_method_2_code
def yX1_thrown : MethodName := ⟨RX1, "thrown", "()I"⟩
abbrev cX1_no : ByteArray := prog_3_method_3_code
def yX1_no : MethodName := ⟨RX1, "no", "(I)I"⟩
abbrev cX1_isNot : ByteArray := prog_3_method_4_code
def yX1_isNot : MethodName := ⟨RX1, "isNot", "(I)Z"⟩
abbrev cX1_ok : ByteArray := prog_3_method_5_code
def yX1_ok : MethodName := ⟨RX1, "ok", "(I)I"⟩
abbrev cX1_isIn : ByteArray := prog_3_method_6_code
def yX1_isIn : MethodName := ⟨RX1, "isIn", "(III)Z"⟩
abbrev cX1_isPlace : ByteArray := prog_3_method_7_code
def yX1_isPlace : MethodName := ⟨RX1, "isPlace", "(I)Z"⟩
abbrev cX1_isExamAt : ByteArray := prog_3_method_8_code
def yX1_isExamAt : MethodName := ⟨RX1, "isExamAt", "(I)Z"⟩
abbrev cX1_isForkAt : ByteArray := prog_3_method_9_code
def yX1_isForkAt : MethodName := ⟨RX1, "isForkAt", "(I)Z"⟩
abbrev cX1_isStudent : ByteArray := prog_3_method_10_code
def yX1_isStudent : MethodName := ⟨RX1, "isStudent", "(I)Z"⟩
abbrev cX1_has : ByteArray := prog_3_method_11_code
def yX1_has : MethodName := ⟨RX1, "has", "(II)Z"⟩
abbrev cX1_table : ByteArray := prog_3_method_12_code
def yX1_table : MethodName := ⟨RX1, "table", "()V"⟩
abbrev cX1_riskOf : ByteArray := prog_3_method_13_code
def yX1_riskOf : MethodName := ⟨RX1, "riskOf", "(IZ)I"⟩
abbrev cX1_turnsRight : ByteArray := prog_3_method_14_code
def yX1_turnsRight : MethodName := ⟨RX1, "turnsRight", "(I)Z"⟩
abbrev cX1_planned : ByteArray := prog_3_method_15_code
def yX1_planned : MethodName := ⟨RX1, "planned", "(I)I"⟩
abbrev cX1_leads : ByteArray := prog_3_method_16_code
def yX1_leads : MethodName := ⟨RX1, "leads", "(I)I"⟩
abbrev cX1_examsOf : ByteArray := prog_3_method_17_code
def yX1_examsOf : MethodName := ⟨RX1, "examsOf", "(I)I"⟩
abbrev cX1_riskiest : ByteArray := prog_3_method_18_code
def yX1_riskiest : MethodName := ⟨RX1, "riskiest", "()I"⟩
abbrev cX1_behind : ByteArray := prog_3_method_19_code
def yX1_behind : MethodName := ⟨RX1, "behind", "(I)I"⟩
abbrev cX1_isKnown : ByteArray := prog_3_method_20_code
def yX1_isKnown : MethodName := ⟨RX1, "isKnown", "(I)Z"⟩
abbrev cX1_regret : ByteArray := prog_3_method_21_code
def yX1_regret : MethodName := ⟨RX1, "regret", "(II)I"⟩
abbrev cX1_regrets : ByteArray := prog_3_method_22_code
def yX1_regrets : MethodName := ⟨RX1, "regrets", "(I)I"⟩
abbrev cX1_allRegrets : ByteArray := prog_3_method_23_code
def yX1_allRegrets : MethodName := ⟨RX1, "allRegrets", "()I"⟩
abbrev cX1_addExam : ByteArray := prog_3_method_24_code
def yX1_addExam : MethodName := ⟨RX1, "addExam", "(II)I"⟩
abbrev cX1_addFork : ByteArray := prog_3_method_25_code
def yX1_addFork : MethodName := ⟨RX1, "addFork", "(III)I"⟩
abbrev cX1_gradedNow : ByteArray := prog_3_method_26_code
def yX1_gradedNow : MethodName := ⟨RX1, "gradedNow", "()I"⟩
abbrev cX1_grade : ByteArray := prog_3_method_27_code
def yX1_grade : MethodName := ⟨RX1, "grade", "(II)I"⟩
abbrev cX1_weigh : ByteArray := prog_3_method_28_code
def yX1_weigh : MethodName := ⟨RX1, "weigh", "(II)I"⟩
abbrev cX1_enroll : ByteArray := prog_3_method_29_code
def yX1_enroll : MethodName := ⟨RX1, "enroll", "(I)I"⟩
abbrev cX1_go : ByteArray := prog_3_method_30_code
def yX1_go : MethodName := ⟨RX1, "go", "(II)V"⟩
abbrev cX1_turn : ByteArray := prog_3_method_31_code
def yX1_turn : MethodName := ⟨RX1, "turn", "(IZ)I"⟩
abbrev cX1_goBack : ByteArray := prog_3_method_32_code
def yX1_goBack : MethodName := ⟨RX1, "goBack", "(I)I"⟩
abbrev cX1_follow : ByteArray := prog_3_method_33_code
def yX1_follow : MethodName := ⟨RX1, "follow", "(I)I"⟩
abbrev cX1_places : ByteArray := prog_3_method_34_code
def yX1_places : MethodName := ⟨RX1, "places", "()I"⟩
abbrev cX1_examsNow : ByteArray := prog_3_method_35_code
def yX1_examsNow : MethodName := ⟨RX1, "examsNow", "()I"⟩
abbrev cX1_exams : ByteArray := prog_3_method_36_code
def yX1_exams : MethodName := ⟨RX1, "exams", "()I"⟩
abbrev cX1_graded : ByteArray := prog_3_method_37_code
def yX1_graded : MethodName := ⟨RX1, "graded", "()I"⟩
abbrev cX1_students : ByteArray := prog_3_method_38_code
def yX1_students : MethodName := ⟨RX1, "students", "()I"⟩
abbrev cX1_atEnds : ByteArray := prog_3_method_39_code
def yX1_atEnds : MethodName := ⟨RX1, "atEnds", "()I"⟩
abbrev cX1_atExams : ByteArray := prog_3_method_40_code
def yX1_atExams : MethodName := ⟨RX1, "atExams", "()I"⟩
abbrev cX1_isExam : ByteArray := prog_3_method_41_code
def yX1_isExam : MethodName := ⟨RX1, "isExam", "(I)Z"⟩
abbrev cX1_isGraded : ByteArray := prog_3_method_42_code
def yX1_isGraded : MethodName := ⟨RX1, "isGraded", "(I)Z"⟩
abbrev cX1_gradeOf : ByteArray := prog_3_method_43_code
def yX1_gradeOf : MethodName := ⟨RX1, "gradeOf", "(I)I"⟩
abbrev cX1_ofFork : ByteArray := prog_3_method_44_code
def yX1_ofFork : MethodName := ⟨RX1, "ofFork", "(I[I)I"⟩
abbrev cX1_leftOf : ByteArray := prog_3_method_45_code
def yX1_leftOf : MethodName := ⟨RX1, "leftOf", "(I)I"⟩
abbrev cX1_rightOf : ByteArray := prog_3_method_46_code
def yX1_rightOf : MethodName := ⟨RX1, "rightOf", "(I)I"⟩
abbrev cX1_weightOf : ByteArray := prog_3_method_47_code
def yX1_weightOf : MethodName := ⟨RX1, "weightOf", "(I)I"⟩
abbrev cX1_ofStudent : ByteArray := prog_3_method_48_code
def yX1_ofStudent : MethodName := ⟨RX1, "ofStudent", "(I[I)I"⟩
abbrev cX1_placeOf : ByteArray := prog_3_method_49_code
def yX1_placeOf : MethodName := ⟨RX1, "placeOf", "(I)I"⟩
abbrev cX1_passedBy : ByteArray := prog_3_method_50_code
def yX1_passedBy : MethodName := ⟨RX1, "passedBy", "(I)I"⟩
abbrev cX1_ofPlace : ByteArray := prog_3_method_51_code
def yX1_ofPlace : MethodName := ⟨RX1, "ofPlace", "(I[I)I"⟩
abbrev cX1_sureGrade : ByteArray := prog_3_method_52_code
def yX1_sureGrade : MethodName := ⟨RX1, "sureGrade", "(I)I"⟩
abbrev cX1_hope : ByteArray := prog_3_method_53_code
def yX1_hope : MethodName := ⟨RX1, "hope", "(I)I"⟩
abbrev cX1_reaches : ByteArray := prog_3_method_54_code
def yX1_reaches : MethodName := ⟨RX1, "reaches", "(II)Z"⟩
abbrev cX1_examsFrom : ByteArray := prog_3_method_55_code
def yX1_examsFrom : MethodName := ⟨RX1, "examsFrom", "(I)I"⟩
abbrev cX1_risk : ByteArray := prog_3_method_56_code
def yX1_risk : MethodName := ⟨RX1, "risk", "(IZ)I"⟩
abbrev cX1_planTurnsRight : ByteArray := prog_3_method_57_code
def yX1_planTurnsRight : MethodName := ⟨RX1, "planTurnsRight", "(I)Z"⟩
abbrev cX1_planLeadsTo : ByteArray := prog_3_method_58_code
def yX1_planLeadsTo : MethodName := ⟨RX1, "planLeadsTo", "(I)I"⟩
abbrev cX1_riskiestFork : ByteArray := prog_3_method_59_code
def yX1_riskiestFork : MethodName := ⟨RX1, "riskiestFork", "()I"⟩
abbrev cX1_hindsight : ByteArray := prog_3_method_60_code
def yX1_hindsight : MethodName := ⟨RX1, "hindsight", "(I)I"⟩
abbrev cX1_regretOf : ByteArray := prog_3_method_61_code
def yX1_regretOf : MethodName := ⟨RX1, "regretOf", "(I)I"⟩
abbrev cX1_worst : ByteArray := prog_3_method_62_code
def yX1_worst : MethodName := ⟨RX1, "worst", "(I)I"⟩
abbrev cX1_worstFork : ByteArray := prog_3_method_63_code
def yX1_worstFork : MethodName := ⟨RX1, "worstFork", "(I)I"⟩
abbrev cX1_allRegret : ByteArray := prog_3_method_64_code
def yX1_allRegret : MethodName := ⟨RX1, "allRegret", "()I"⟩
abbrev cX1_meanGrade : ByteArray := prog_3_method_65_code
def yX1_meanGrade : MethodName := ⟨RX1, "meanGrade", "()D"⟩
abbrev cX1_digest : ByteArray := prog_3_method_66_code
def yX1_digest : MethodName := ⟨RX1, "digest", "()J"⟩
def RJ13 : String := "java/lang/Long"
def TJ13 : u_T := fun k => match k with
  | _ => ("", "", "", false)
def tyJ13 : Nat → FieldType := fun k => match k with
  | _ => .int
abbrev wsJ130 : List Cond := u_ws RJ13 TJ13 0
theorem nmJ13 : ∀ a, a < 0 → ∀ b, b < 0 → a ≠ b → (TJ13 a).2.1 ≠ (TJ13 b).2.1 := by decide +kernel
theorem tyJ13_ok : ∀ k, k < 0 → parseFieldDescriptor (TJ13 k).2.2.1 = some (tyJ13 k) := by decide +kernel
abbrev cJ13_bitCount_95d88 : ByteArray := prog_8_method_50_code
def yJ13_bitCount_95d88 : MethodName := ⟨RJ13, "bitCount", "(J)I"⟩
def RJ9 : String := "java/lang/Math"
def TJ9 : u_T := fun k => match k with
  | _ => ("", "", "", false)
def tyJ9 : Nat → FieldType := fun k => match k with
  | _ => .int
abbrev wsJ90 : List Cond := u_ws RJ9 TJ9 0
theorem nmJ9 : ∀ a, a < 0 → ∀ b, b < 0 → a ≠ b → (TJ9 a).2.1 ≠ (TJ9 b).2.1 := by decide +kernel
theorem tyJ9_ok : ∀ k, k < 0 → parseFieldDescriptor (TJ9 k).2.2.1 = some (tyJ9 k) := by decide +kernel
abbrev cJ9_max_7cf53 : ByteArray := prog_9_method_65_code
def yJ9_max_7cf53 : MethodName := ⟨RJ9, "max", "(II)I"⟩
abbrev cJ9_min_7cf53 : ByteArray := prog_9_method_69_code
def yJ9_min_7cf53 : MethodName := ⟨RJ9, "min", "(II)I"⟩
def RJ0 : String := "java/lang/String"
def TJ0 : u_T := fun k => match k with
  | _ => ("", "", "", false)
def tyJ0 : Nat → FieldType := fun k => match k with
  | _ => .int
abbrev wsJ00 : List Cond := u_ws RJ0 TJ0 0
theorem nmJ0 : ∀ a, a < 0 → ∀ b, b < 0 → a ≠ b → (TJ0 a).2.1 ≠ (TJ0 b).2.1 := by decide +kernel
theorem tyJ0_ok : ∀ k, k < 0 → parseFieldDescriptor (TJ0 k).2.2.1 = some (tyJ0 k) := by decide +kernel
def RL : String := "ExamGardenLaw"
abbrev cL_addExam : ByteArray := method_3_code
def yL_addExam : MethodName := ⟨RL, "addExam", "(LExamGarden;II[J)I"⟩
abbrev cL_addFork : ByteArray := method_4_code
def yL_addFork : MethodName := ⟨RL, "addFork", "(LExamGarden;III[J)I"⟩
abbrev cL_grade : ByteArray := method_5_code
def yL_grade : MethodName := ⟨RL, "grade", "(LExamGarden;II[J)I"⟩
abbrev cL_weigh : ByteArray := method_6_code
def yL_weigh : MethodName := ⟨RL, "weigh", "(LExamGarden;II[J)I"⟩
abbrev cL_enroll : ByteArray := method_7_code
def yL_enroll : MethodName := ⟨RL, "enroll", "(LExamGarden;I[J)I"⟩
abbrev cL_turn : ByteArray := method_8_code
def yL_turn : MethodName := ⟨RL, "turn", "(LExamGarden;IZ[J)I"⟩
abbrev cL_goBack : ByteArray := method_9_code
def yL_goBack : MethodName := ⟨RL, "goBack", "(LExamGarden;I[J)I"⟩
abbrev cL_follow : ByteArray := method_10_code
def yL_follow : MethodName := ⟨RL, "follow", "(LExamGarden;I[J)I"⟩
abbrev cL_isExam : ByteArray := method_11_code
def yL_isExam : MethodName := ⟨RL, "isExam", "(LExamGarden;I[J)I"⟩
abbrev cL_isGraded : ByteArray := method_12_code
def yL_isGraded : MethodName := ⟨RL, "isGraded", "(LExamGarden;I[J)I"⟩
abbrev cL_gradeOf : ByteArray := method_13_code
def yL_gradeOf : MethodName := ⟨RL, "gradeOf", "(LExamGarden;I[J)I"⟩
abbrev cL_leftOf : ByteArray := method_14_code
def yL_leftOf : MethodName := ⟨RL, "leftOf", "(LExamGarden;I[J)I"⟩
abbrev cL_rightOf : ByteArray := method_15_code
def yL_rightOf : MethodName := ⟨RL, "rightOf", "(LExamGarden;I[J)I"⟩
abbrev cL_weightOf : ByteArray := method_16_code
def yL_weightOf : MethodName := ⟨RL, "weightOf", "(LExamGarden;I[J)I"⟩
abbrev cL_placeOf : ByteArray := method_17_code
def yL_placeOf : MethodName := ⟨RL, "placeOf", "(LExamGarden;I[J)I"⟩
abbrev cL_passedBy : ByteArray := method_18_code
def yL_passedBy : MethodName := ⟨RL, "passedBy", "(LExamGarden;I[J)I"⟩
abbrev cL_sureGrade : ByteArray := method_19_code
def yL_sureGrade : MethodName := ⟨RL, "sureGrade", "(LExamGarden;I[J)I"⟩
abbrev cL_hope : ByteArray := method_20_code
def yL_hope : MethodName := ⟨RL, "hope", "(LExamGarden;I[J)I"⟩
abbrev cL_reaches : ByteArray := method_21_code
def yL_reaches : MethodName := ⟨RL, "reaches", "(LExamGarden;II[J)I"⟩
abbrev cL_examsFrom : ByteArray := method_22_code
def yL_examsFrom : MethodName := ⟨RL, "examsFrom", "(LExamGarden;I[J)I"⟩
abbrev cL_risk : ByteArray := method_23_code
def yL_risk : MethodName := ⟨RL, "risk", "(LExamGarden;IZ[J)I"⟩
abbrev cL_planTurnsRight : ByteArray := method_24_code
def yL_planTurnsRight : MethodName := ⟨RL, "planTurnsRight", "(LExamGarden;I[J)I"⟩
abbrev cL_planLeadsTo : ByteArray := method_25_code
def yL_planLeadsTo : MethodName := ⟨RL, "planLeadsTo", "(LExamGarden;I[J)I"⟩
abbrev cL_hindsight : ByteArray := method_26_code
def yL_hindsight : MethodName := ⟨RL, "hindsight", "(LExamGarden;I[J)I"⟩
abbrev cL_regretOf : ByteArray := method_27_code
def yL_regretOf : MethodName := ⟨RL, "regretOf", "(LExamGarden;I[J)I"⟩
abbrev cL_worstFork : ByteArray := method_28_code
def yL_worstFork : MethodName := ⟨RL, "worstFork", "(LExamGarden;I[J)I"⟩
abbrev cL_law : ByteArray := code
def yL_law : MethodName := ⟨RL, "law", "([I)Z"⟩
def wsX0_init : List Cond := .code yX0_init cX0_init 1 none :: ([.methodLink RX0 1 objectInit, .instanceMethod objectInit, .code objectInit ⟨#[0xb1]⟩ 1 none, .arrayClass .int, .fieldLink RX0 9 "ExamGarden" "lowestGrades" "[I", .fieldLink RX0 13 "ExamGarden" "highestGrades" "[I", .fieldLink RX0 16 "ExamGarden" "lefts" "[I", .fieldLink RX0 19 "ExamGarden" "rights" "[I", .fieldLink RX0 22 "ExamGarden" "weights" "[I", .fieldLink RX0 25 "ExamGarden" "grades" "[I", .fieldLink RX0 28 "ExamGarden" "sureGrades" "[I", .fieldLink RX0 31 "ExamGarden" "hopes" "[I", .fieldLink RX0 34 "ExamGarden" "hindsights" "[I", .arrayClass .long, .fieldLink RX0 37 "ExamGarden" "reachedBits" "[J", .fieldLink RX0 41 "ExamGarden" "standing" "[I", .fieldLink RX0 44 "ExamGarden" "passedCounts" "[I", .fieldLink RX0 47 "ExamGarden" "passedForks" "[I"] ++ wsX00)
def wsX0_requireRoom : List Cond := .code yX0_requireRoom cX0_requireRoom 1 none :: ([.classLink RX0 110 "java/lang/IllegalStateException", .initialized "java/lang/IllegalStateException", .fieldLink RX0 60 "ExamGarden" "placeCount" "I"] ++ wsX00 ++ (vx_atS RX0 114 "java/lang/IllegalStateException" ["java/lang/RuntimeException", "java/lang/Exception"]).filter goodWord)
def wsX0_bitOf : List Cond := .code yX0_bitOf cX0_bitOf 1 (some .long) :: ([])
def wsX0_put : List Cond := .code yX0_put cX0_put 3 none :: ([])
def wsX0_putBits : List Cond := .code yX0_putBits cX0_putBits 4 none :: ([])
def wsX0_at : List Cond := .code yX0_at cX0_at 2 (some .int) :: ([])
def wsX0_hasGrade : List Cond := .code yX0_hasGrade cX0_hasGrade 2 (some .boolean) :: ([.fieldLink RX0 25 "ExamGarden" "grades" "[I", .methodLink RX0 100 yX0_at, .static yX0_at, .initialized RX0, .code yX0_at cX0_at 2 (some .int)] ++ wsX00)
def wsX0_settleExam : List Cond := .code yX0_settleExam cX0_settleExam 4 none :: ([.fieldLink RX0 25 "ExamGarden" "grades" "[I", .fieldLink RX0 28 "ExamGarden" "sureGrades" "[I", .fieldLink RX0 9 "ExamGarden" "lowestGrades" "[I", .fieldLink RX0 31 "ExamGarden" "hopes" "[I", .fieldLink RX0 13 "ExamGarden" "highestGrades" "[I", .fieldLink RX0 34 "ExamGarden" "hindsights" "[I", .methodLink RX0 106 yX0_hasGrade, .instanceMethod yX0_hasGrade, .selects RX0 yX0_hasGrade yX0_hasGrade, .initialized RX0, .code yX0_hasGrade cX0_hasGrade 2 (some .boolean), .methodLink RX0 100 yX0_at, .static yX0_at, .code yX0_at cX0_at 2 (some .int), .methodLink RX0 72 yX0_put, .static yX0_put, .code yX0_put cX0_put 3 none] ++ wsX00)
def wsX0_addExam_r1 : List Cond := [Cond.classLink RX0 50 "java/lang/IllegalArgumentException", Cond.initialized "java/lang/IllegalArgumentException", Cond.fieldLink RX0 60 "ExamGarden" "placeCount" "I", Cond.fieldLink RX0 64 "ExamGarden" "examBits" "J", Cond.fieldLink RX0 9 "ExamGarden" "lowestGrades" "[I", Cond.fieldLink RX0 13 "ExamGarden" "highestGrades" "[I", Cond.fieldLink RX0 25 "ExamGarden" "grades" "[I", Cond.fieldLink RX0 37 "ExamGarden" "reachedBits" "[J", Cond.methodLink RX0 57 yX0_requireRoom, Cond.instanceMethod yX0_requireRoom, Cond.selects RX0 yX0_requireRoom yX0_requireRoom, Cond.initialized RX0, Cond.code yX0_requireRoom cX0_requireRoom 1 none, Cond.classLink RX0 110 "java/lang/IllegalStateException", Cond.initialized "java/lang/IllegalStateException", Cond.methodLink RX0 68 yX0_bitOf, Cond.static yX0_bitOf, Cond.code yX0_bitOf cX0_bitOf 1 (some .long), Cond.methodLink RX0 72 yX0_put, Cond.static yX0_put, Cond.code yX0_put cX0_put 3 none, Cond.methodLink RX0 76 yX0_putBits, Cond.static yX0_putBits, Cond.code yX0_putBits cX0_putBits 4 none]
def wsX0_addExam_r2 : List Cond := [Cond.methodLink RX0 80 yX0_settleExam, Cond.instanceMethod yX0_settleExam, Cond.selects RX0 yX0_settleExam yX0_settleExam, Cond.code yX0_settleExam cX0_settleExam 4 none, Cond.fieldLink RX0 28 "ExamGarden" "sureGrades" "[I", Cond.fieldLink RX0 31 "ExamGarden" "hopes" "[I", Cond.fieldLink RX0 34 "ExamGarden" "hindsights" "[I", Cond.methodLink RX0 106 yX0_hasGrade, Cond.instanceMethod yX0_hasGrade, Cond.selects RX0 yX0_hasGrade yX0_hasGrade, Cond.code yX0_hasGrade cX0_hasGrade 2 (some .boolean), Cond.methodLink RX0 100 yX0_at, Cond.static yX0_at, Cond.code yX0_at cX0_at 2 (some .int)]
def wsX0_addExam : List Cond := .code yX0_addExam cX0_addExam 4 (some .int) :: ((wsX0_addExam_r1 ++ wsX0_addExam_r2) ++ wsX00 ++ (vx_atS RX0 54 "java/lang/IllegalArgumentException" ["java/lang/RuntimeException", "java/lang/Exception"]).filter goodWord ++ (vx_atS RX0 114 "java/lang/IllegalStateException" ["java/lang/RuntimeException", "java/lang/Exception"]).filter goodWord)
def wsX0_requirePlace : List Cond := .code yX0_requirePlace cX0_requirePlace 2 none :: ([.classLink RX0 250 "java/lang/IndexOutOfBoundsException", .initialized "java/lang/IndexOutOfBoundsException", .fieldLink RX0 60 "ExamGarden" "placeCount" "I"] ++ wsX00 ++ (vx_atS RX0 254 "java/lang/IndexOutOfBoundsException" ["java/lang/RuntimeException", "java/lang/Exception"]).filter goodWord)
def wsX0_requireWeight : List Cond := .code yX0_requireWeight cX0_requireWeight 1 none :: ([.classLink RX0 50 "java/lang/IllegalArgumentException", .initialized "java/lang/IllegalArgumentException"] ++ (vx_atS RX0 54 "java/lang/IllegalArgumentException" ["java/lang/RuntimeException", "java/lang/Exception"]).filter goodWord)
def wsX0_bitsAt : List Cond := .code yX0_bitsAt cX0_bitsAt 2 (some .long) :: ([])
def wsX0_settleGreater : List Cond := .code yX0_settleGreater cX0_settleGreater 3 none :: ([.fieldLink RX0 16 "ExamGarden" "lefts" "[I", .fieldLink RX0 19 "ExamGarden" "rights" "[I", .methodLink RX0 269 Lib.Math.max.name, .static Lib.Math.max.name, .initialized "java/lang/Math", .code Lib.Math.max.name Lib.Math.max.code 2 (some .int), .methodLink RX0 100 yX0_at, .static yX0_at, .initialized RX0, .code yX0_at cX0_at 2 (some .int), .methodLink RX0 72 yX0_put, .static yX0_put, .code yX0_put cX0_put 3 none] ++ wsX00)
def wsX0_settleFork : List Cond := .code yX0_settleFork cX0_settleFork 2 none :: ([.fieldLink RX0 28 "ExamGarden" "sureGrades" "[I", .fieldLink RX0 31 "ExamGarden" "hopes" "[I", .fieldLink RX0 34 "ExamGarden" "hindsights" "[I", .methodLink RX0 265 yX0_settleGreater, .instanceMethod yX0_settleGreater, .selects RX0 yX0_settleGreater yX0_settleGreater, .initialized RX0, .code yX0_settleGreater cX0_settleGreater 3 none, .fieldLink RX0 16 "ExamGarden" "lefts" "[I", .fieldLink RX0 19 "ExamGarden" "rights" "[I", .methodLink RX0 269 Lib.Math.max.name, .static Lib.Math.max.name, .initialized "java/lang/Math", .code Lib.Math.max.name Lib.Math.max.code 2 (some .int), .methodLink RX0 100 yX0_at, .static yX0_at, .code yX0_at cX0_at 2 (some .int), .methodLink RX0 72 yX0_put, .static yX0_put, .code yX0_put cX0_put 3 none] ++ wsX00)
def wsX0_addFork_r1 : List Cond := [Cond.fieldLink RX0 60 "ExamGarden" "placeCount" "I", Cond.fieldLink RX0 16 "ExamGarden" "lefts" "[I", Cond.fieldLink RX0 19 "ExamGarden" "rights" "[I", Cond.fieldLink RX0 22 "ExamGarden" "weights" "[I", Cond.fieldLink RX0 25 "ExamGarden" "grades" "[I", Cond.fieldLink RX0 37 "ExamGarden" "reachedBits" "[J", Cond.methodLink RX0 84 yX0_requirePlace, Cond.instanceMethod yX0_requirePlace, Cond.selects RX0 yX0_requirePlace yX0_requirePlace, Cond.initialized RX0, Cond.code yX0_requirePlace cX0_requirePlace 2 none, Cond.classLink RX0 250 "java/lang/IndexOutOfBoundsException", Cond.initialized "java/lang/IndexOutOfBoundsException", Cond.methodLink RX0 87 yX0_requireWeight, Cond.static yX0_requireWeight, Cond.code yX0_requireWeight cX0_requireWeight 1 none, Cond.classLink RX0 50 "java/lang/IllegalArgumentException", Cond.initialized "java/lang/IllegalArgumentException", Cond.methodLink RX0 57 yX0_requireRoom, Cond.instanceMethod yX0_requireRoom, Cond.selects RX0 yX0_requireRoom yX0_requireRoom, Cond.code yX0_requireRoom cX0_requireRoom 1 none, Cond.classLink RX0 110 "java/lang/IllegalStateException", Cond.initialized "java/lang/IllegalStateException"]
def wsX0_addFork_r2 : List Cond := [Cond.methodLink RX0 72 yX0_put, Cond.static yX0_put, Cond.code yX0_put cX0_put 3 none, Cond.methodLink RX0 68 yX0_bitOf, Cond.static yX0_bitOf, Cond.code yX0_bitOf cX0_bitOf 1 (some .long), Cond.methodLink RX0 90 yX0_bitsAt, Cond.static yX0_bitsAt, Cond.code yX0_bitsAt cX0_bitsAt 2 (some .long), Cond.methodLink RX0 76 yX0_putBits, Cond.static yX0_putBits, Cond.code yX0_putBits cX0_putBits 4 none, Cond.methodLink RX0 94 yX0_settleFork, Cond.instanceMethod yX0_settleFork, Cond.selects RX0 yX0_settleFork yX0_settleFork, Cond.code yX0_settleFork cX0_settleFork 2 none, Cond.fieldLink RX0 28 "ExamGarden" "sureGrades" "[I", Cond.fieldLink RX0 31 "ExamGarden" "hopes" "[I", Cond.fieldLink RX0 34 "ExamGarden" "hindsights" "[I", Cond.methodLink RX0 265 yX0_settleGreater, Cond.instanceMethod yX0_settleGreater, Cond.selects RX0 yX0_settleGreater yX0_settleGreater, Cond.code yX0_settleGreater cX0_settleGreater 3 none, Cond.methodLink RX0 269 Lib.Math.max.name]
def wsX0_addFork_r3 : List Cond := [Cond.static Lib.Math.max.name, Cond.initialized "java/lang/Math", Cond.code Lib.Math.max.name Lib.Math.max.code 2 (some .int), Cond.methodLink RX0 100 yX0_at, Cond.static yX0_at, Cond.code yX0_at cX0_at 2 (some .int)]
def wsX0_addFork : List Cond := .code yX0_addFork cX0_addFork 5 (some .int) :: ((wsX0_addFork_r1 ++ (wsX0_addFork_r2 ++ wsX0_addFork_r3)) ++ wsX00 ++ (vx_atS RX0 254 "java/lang/IndexOutOfBoundsException" ["java/lang/RuntimeException", "java/lang/Exception"]).filter goodWord ++ (vx_atS RX0 54 "java/lang/IllegalArgumentException" ["java/lang/RuntimeException", "java/lang/Exception"]).filter goodWord ++ (vx_atS RX0 114 "java/lang/IllegalStateException" ["java/lang/RuntimeException", "java/lang/Exception"]).filter goodWord)
def wsX0_holdsExam : List Cond := .code yX0_holdsExam cX0_holdsExam 2 (some .boolean) :: ([.fieldLink RX0 64 "ExamGarden" "examBits" "J", .methodLink RX0 68 yX0_bitOf, .static yX0_bitOf, .initialized RX0, .code yX0_bitOf cX0_bitOf 1 (some .long)] ++ wsX00)
def wsX0_requireExam : List Cond := .code yX0_requireExam cX0_requireExam 2 none :: ([.classLink RX0 250 "java/lang/IndexOutOfBoundsException", .initialized "java/lang/IndexOutOfBoundsException", .methodLink RX0 84 yX0_requirePlace, .instanceMethod yX0_requirePlace, .selects RX0 yX0_requirePlace yX0_requirePlace, .initialized RX0, .code yX0_requirePlace cX0_requirePlace 2 none, .fieldLink RX0 60 "ExamGarden" "placeCount" "I", .methodLink RX0 135 yX0_holdsExam, .instanceMethod yX0_holdsExam, .selects RX0 yX0_holdsExam yX0_holdsExam, .code yX0_holdsExam cX0_holdsExam 2 (some .boolean), .fieldLink RX0 64 "ExamGarden" "examBits" "J", .methodLink RX0 68 yX0_bitOf, .static yX0_bitOf, .code yX0_bitOf cX0_bitOf 1 (some .long)] ++ wsX00 ++ (vx_atS RX0 254 "java/lang/IndexOutOfBoundsException" ["java/lang/RuntimeException", "java/lang/Exception"]).filter goodWord)
def wsX0_settleForksAfter_r1 : List Cond := [Cond.fieldLink RX0 60 "ExamGarden" "placeCount" "I", Cond.methodLink RX0 135 yX0_holdsExam, Cond.instanceMethod yX0_holdsExam, Cond.selects RX0 yX0_holdsExam yX0_holdsExam, Cond.initialized RX0, Cond.code yX0_holdsExam cX0_holdsExam 2 (some .boolean), Cond.fieldLink RX0 64 "ExamGarden" "examBits" "J", Cond.methodLink RX0 68 yX0_bitOf, Cond.static yX0_bitOf, Cond.code yX0_bitOf cX0_bitOf 1 (some .long), Cond.methodLink RX0 94 yX0_settleFork, Cond.instanceMethod yX0_settleFork, Cond.selects RX0 yX0_settleFork yX0_settleFork, Cond.code yX0_settleFork cX0_settleFork 2 none, Cond.fieldLink RX0 28 "ExamGarden" "sureGrades" "[I", Cond.fieldLink RX0 31 "ExamGarden" "hopes" "[I", Cond.fieldLink RX0 34 "ExamGarden" "hindsights" "[I", Cond.methodLink RX0 265 yX0_settleGreater, Cond.instanceMethod yX0_settleGreater, Cond.selects RX0 yX0_settleGreater yX0_settleGreater, Cond.code yX0_settleGreater cX0_settleGreater 3 none, Cond.fieldLink RX0 16 "ExamGarden" "lefts" "[I", Cond.fieldLink RX0 19 "ExamGarden" "rights" "[I", Cond.methodLink RX0 269 Lib.Math.max.name]
def wsX0_settleForksAfter_r2 : List Cond := [Cond.static Lib.Math.max.name, Cond.initialized "java/lang/Math", Cond.code Lib.Math.max.name Lib.Math.max.code 2 (some .int), Cond.methodLink RX0 100 yX0_at, Cond.static yX0_at, Cond.code yX0_at cX0_at 2 (some .int), Cond.methodLink RX0 72 yX0_put, Cond.static yX0_put, Cond.code yX0_put cX0_put 3 none]
def wsX0_settleForksAfter : List Cond := .code yX0_settleForksAfter cX0_settleForksAfter 3 none :: ((wsX0_settleForksAfter_r1 ++ wsX0_settleForksAfter_r2) ++ wsX00)
def wsX0_grade_r1 : List Cond := [Cond.classLink RX0 50 "java/lang/IllegalArgumentException", Cond.initialized "java/lang/IllegalArgumentException", Cond.classLink RX0 110 "java/lang/IllegalStateException", Cond.initialized "java/lang/IllegalStateException", Cond.fieldLink RX0 9 "ExamGarden" "lowestGrades" "[I", Cond.fieldLink RX0 13 "ExamGarden" "highestGrades" "[I", Cond.fieldLink RX0 25 "ExamGarden" "grades" "[I", Cond.fieldLink RX0 115 "ExamGarden" "gradedCount" "I", Cond.fieldLink RX0 118 "ExamGarden" "gradeSum" "I", Cond.methodLink RX0 97 yX0_requireExam, Cond.instanceMethod yX0_requireExam, Cond.selects RX0 yX0_requireExam yX0_requireExam, Cond.initialized RX0, Cond.code yX0_requireExam cX0_requireExam 2 none, Cond.classLink RX0 250 "java/lang/IndexOutOfBoundsException", Cond.initialized "java/lang/IndexOutOfBoundsException", Cond.methodLink RX0 84 yX0_requirePlace, Cond.instanceMethod yX0_requirePlace, Cond.selects RX0 yX0_requirePlace yX0_requirePlace, Cond.code yX0_requirePlace cX0_requirePlace 2 none, Cond.fieldLink RX0 60 "ExamGarden" "placeCount" "I", Cond.methodLink RX0 135 yX0_holdsExam, Cond.instanceMethod yX0_holdsExam, Cond.selects RX0 yX0_holdsExam yX0_holdsExam]
def wsX0_grade_r2 : List Cond := [Cond.code yX0_holdsExam cX0_holdsExam 2 (some .boolean), Cond.fieldLink RX0 64 "ExamGarden" "examBits" "J", Cond.methodLink RX0 68 yX0_bitOf, Cond.static yX0_bitOf, Cond.code yX0_bitOf cX0_bitOf 1 (some .long), Cond.methodLink RX0 100 yX0_at, Cond.static yX0_at, Cond.code yX0_at cX0_at 2 (some .int), Cond.methodLink RX0 106 yX0_hasGrade, Cond.instanceMethod yX0_hasGrade, Cond.selects RX0 yX0_hasGrade yX0_hasGrade, Cond.code yX0_hasGrade cX0_hasGrade 2 (some .boolean), Cond.methodLink RX0 72 yX0_put, Cond.static yX0_put, Cond.code yX0_put cX0_put 3 none, Cond.methodLink RX0 80 yX0_settleExam, Cond.instanceMethod yX0_settleExam, Cond.selects RX0 yX0_settleExam yX0_settleExam, Cond.code yX0_settleExam cX0_settleExam 4 none, Cond.fieldLink RX0 28 "ExamGarden" "sureGrades" "[I", Cond.fieldLink RX0 31 "ExamGarden" "hopes" "[I", Cond.fieldLink RX0 34 "ExamGarden" "hindsights" "[I", Cond.methodLink RX0 121 yX0_settleForksAfter, Cond.instanceMethod yX0_settleForksAfter]
def wsX0_grade_r3 : List Cond := [Cond.selects RX0 yX0_settleForksAfter yX0_settleForksAfter, Cond.code yX0_settleForksAfter cX0_settleForksAfter 3 none, Cond.methodLink RX0 94 yX0_settleFork, Cond.instanceMethod yX0_settleFork, Cond.selects RX0 yX0_settleFork yX0_settleFork, Cond.code yX0_settleFork cX0_settleFork 2 none, Cond.methodLink RX0 265 yX0_settleGreater, Cond.instanceMethod yX0_settleGreater, Cond.selects RX0 yX0_settleGreater yX0_settleGreater, Cond.code yX0_settleGreater cX0_settleGreater 3 none, Cond.fieldLink RX0 16 "ExamGarden" "lefts" "[I", Cond.fieldLink RX0 19 "ExamGarden" "rights" "[I", Cond.methodLink RX0 269 Lib.Math.max.name, Cond.static Lib.Math.max.name, Cond.initialized "java/lang/Math", Cond.code Lib.Math.max.name Lib.Math.max.code 2 (some .int)]
def wsX0_grade : List Cond := .code yX0_grade cX0_grade 3 (some .int) :: ((wsX0_grade_r1 ++ (wsX0_grade_r2 ++ wsX0_grade_r3)) ++ wsX00 ++ (vx_atS RX0 54 "java/lang/IllegalArgumentException" ["java/lang/RuntimeException", "java/lang/Exception"]).filter goodWord ++ (vx_atS RX0 114 "java/lang/IllegalStateException" ["java/lang/RuntimeException", "java/lang/Exception"]).filter goodWord ++ (vx_atS RX0 254 "java/lang/IndexOutOfBoundsException" ["java/lang/RuntimeException", "java/lang/Exception"]).filter goodWord)
def wsX0_requireFork : List Cond := .code yX0_requireFork cX0_requireFork 2 none :: ([.classLink RX0 250 "java/lang/IndexOutOfBoundsException", .initialized "java/lang/IndexOutOfBoundsException", .methodLink RX0 84 yX0_requirePlace, .instanceMethod yX0_requirePlace, .selects RX0 yX0_requirePlace yX0_requirePlace, .initialized RX0, .code yX0_requirePlace cX0_requirePlace 2 none, .fieldLink RX0 60 "ExamGarden" "placeCount" "I", .methodLink RX0 135 yX0_holdsExam, .instanceMethod yX0_holdsExam, .selects RX0 yX0_holdsExam yX0_holdsExam, .code yX0_holdsExam cX0_holdsExam 2 (some .boolean), .fieldLink RX0 64 "ExamGarden" "examBits" "J", .methodLink RX0 68 yX0_bitOf, .static yX0_bitOf, .code yX0_bitOf cX0_bitOf 1 (some .long)] ++ wsX00 ++ (vx_atS RX0 254 "java/lang/IndexOutOfBoundsException" ["java/lang/RuntimeException", "java/lang/Exception"]).filter goodWord)
def wsX0_weigh_r1 : List Cond := [Cond.fieldLink RX0 22 "ExamGarden" "weights" "[I", Cond.methodLink RX0 124 yX0_requireFork, Cond.instanceMethod yX0_requireFork, Cond.selects RX0 yX0_requireFork yX0_requireFork, Cond.initialized RX0, Cond.code yX0_requireFork cX0_requireFork 2 none, Cond.classLink RX0 250 "java/lang/IndexOutOfBoundsException", Cond.initialized "java/lang/IndexOutOfBoundsException", Cond.methodLink RX0 84 yX0_requirePlace, Cond.instanceMethod yX0_requirePlace, Cond.selects RX0 yX0_requirePlace yX0_requirePlace, Cond.code yX0_requirePlace cX0_requirePlace 2 none, Cond.fieldLink RX0 60 "ExamGarden" "placeCount" "I", Cond.methodLink RX0 135 yX0_holdsExam, Cond.instanceMethod yX0_holdsExam, Cond.selects RX0 yX0_holdsExam yX0_holdsExam, Cond.code yX0_holdsExam cX0_holdsExam 2 (some .boolean), Cond.fieldLink RX0 64 "ExamGarden" "examBits" "J", Cond.methodLink RX0 68 yX0_bitOf, Cond.static yX0_bitOf, Cond.code yX0_bitOf cX0_bitOf 1 (some .long), Cond.methodLink RX0 87 yX0_requireWeight, Cond.static yX0_requireWeight, Cond.code yX0_requireWeight cX0_requireWeight 1 none]
def wsX0_weigh_r2 : List Cond := [Cond.classLink RX0 50 "java/lang/IllegalArgumentException", Cond.initialized "java/lang/IllegalArgumentException", Cond.methodLink RX0 100 yX0_at, Cond.static yX0_at, Cond.code yX0_at cX0_at 2 (some .int), Cond.methodLink RX0 72 yX0_put, Cond.static yX0_put, Cond.code yX0_put cX0_put 3 none]
def wsX0_weigh : List Cond := .code yX0_weigh cX0_weigh 4 (some .int) :: ((wsX0_weigh_r1 ++ wsX0_weigh_r2) ++ wsX00 ++ (vx_atS RX0 254 "java/lang/IndexOutOfBoundsException" ["java/lang/RuntimeException", "java/lang/Exception"]).filter goodWord ++ (vx_atS RX0 54 "java/lang/IllegalArgumentException" ["java/lang/RuntimeException", "java/lang/Exception"]).filter goodWord)
def wsX0_enroll : List Cond := .code yX0_enroll cX0_enroll 3 (some .int) :: ([.classLink RX0 110 "java/lang/IllegalStateException", .initialized "java/lang/IllegalStateException", .fieldLink RX0 127 "ExamGarden" "studentCount" "I", .fieldLink RX0 41 "ExamGarden" "standing" "[I", .methodLink RX0 84 yX0_requirePlace, .instanceMethod yX0_requirePlace, .selects RX0 yX0_requirePlace yX0_requirePlace, .initialized RX0, .code yX0_requirePlace cX0_requirePlace 2 none, .classLink RX0 250 "java/lang/IndexOutOfBoundsException", .initialized "java/lang/IndexOutOfBoundsException", .fieldLink RX0 60 "ExamGarden" "placeCount" "I", .methodLink RX0 72 yX0_put, .static yX0_put, .code yX0_put cX0_put 3 none] ++ wsX00 ++ (vx_atS RX0 114 "java/lang/IllegalStateException" ["java/lang/RuntimeException", "java/lang/Exception"]).filter goodWord ++ (vx_atS RX0 254 "java/lang/IndexOutOfBoundsException" ["java/lang/RuntimeException", "java/lang/Exception"]).filter goodWord)
def wsX0_requireStudent : List Cond := .code yX0_requireStudent cX0_requireStudent 2 none :: ([.classLink RX0 250 "java/lang/IndexOutOfBoundsException", .initialized "java/lang/IndexOutOfBoundsException", .fieldLink RX0 127 "ExamGarden" "studentCount" "I"] ++ wsX00 ++ (vx_atS RX0 254 "java/lang/IndexOutOfBoundsException" ["java/lang/RuntimeException", "java/lang/Exception"]).filter goodWord)
def wsX0_pathFrom : List Cond := .code yX0_pathFrom cX0_pathFrom 3 (some .int) :: ([.fieldLink RX0 19 "ExamGarden" "rights" "[I", .fieldLink RX0 16 "ExamGarden" "lefts" "[I", .methodLink RX0 100 yX0_at, .static yX0_at, .initialized RX0, .code yX0_at cX0_at 2 (some .int)] ++ wsX00)
def wsX0_walk : List Cond := .code yX0_walk cX0_walk 5 none :: ([.fieldLink RX0 41 "ExamGarden" "standing" "[I", .fieldLink RX0 44 "ExamGarden" "passedCounts" "[I", .fieldLink RX0 47 "ExamGarden" "passedForks" "[I", .methodLink RX0 100 yX0_at, .static yX0_at, .initialized RX0, .code yX0_at cX0_at 2 (some .int), .methodLink RX0 72 yX0_put, .static yX0_put, .code yX0_put cX0_put 3 none, .methodLink RX0 163 yX0_pathFrom, .instanceMethod yX0_pathFrom, .selects RX0 yX0_pathFrom yX0_pathFrom, .code yX0_pathFrom cX0_pathFrom 3 (some .int), .fieldLink RX0 19 "ExamGarden" "rights" "[I", .fieldLink RX0 16 "ExamGarden" "lefts" "[I"] ++ wsX00)
def wsX0_turn_r1 : List Cond := [Cond.classLink RX0 110 "java/lang/IllegalStateException", Cond.initialized "java/lang/IllegalStateException", Cond.fieldLink RX0 41 "ExamGarden" "standing" "[I", Cond.methodLink RX0 132 yX0_requireStudent, Cond.instanceMethod yX0_requireStudent, Cond.selects RX0 yX0_requireStudent yX0_requireStudent, Cond.initialized RX0, Cond.code yX0_requireStudent cX0_requireStudent 2 none, Cond.classLink RX0 250 "java/lang/IndexOutOfBoundsException", Cond.initialized "java/lang/IndexOutOfBoundsException", Cond.fieldLink RX0 127 "ExamGarden" "studentCount" "I", Cond.methodLink RX0 100 yX0_at, Cond.static yX0_at, Cond.code yX0_at cX0_at 2 (some .int), Cond.methodLink RX0 135 yX0_holdsExam, Cond.instanceMethod yX0_holdsExam, Cond.selects RX0 yX0_holdsExam yX0_holdsExam, Cond.code yX0_holdsExam cX0_holdsExam 2 (some .boolean), Cond.fieldLink RX0 64 "ExamGarden" "examBits" "J", Cond.methodLink RX0 68 yX0_bitOf, Cond.static yX0_bitOf, Cond.code yX0_bitOf cX0_bitOf 1 (some .long), Cond.methodLink RX0 140 yX0_walk, Cond.instanceMethod yX0_walk]
def wsX0_turn_r2 : List Cond := [Cond.selects RX0 yX0_walk yX0_walk, Cond.code yX0_walk cX0_walk 5 none, Cond.fieldLink RX0 44 "ExamGarden" "passedCounts" "[I", Cond.fieldLink RX0 47 "ExamGarden" "passedForks" "[I", Cond.methodLink RX0 72 yX0_put, Cond.static yX0_put, Cond.code yX0_put cX0_put 3 none, Cond.methodLink RX0 163 yX0_pathFrom, Cond.instanceMethod yX0_pathFrom, Cond.selects RX0 yX0_pathFrom yX0_pathFrom, Cond.code yX0_pathFrom cX0_pathFrom 3 (some .int), Cond.fieldLink RX0 19 "ExamGarden" "rights" "[I", Cond.fieldLink RX0 16 "ExamGarden" "lefts" "[I"]
def wsX0_turn : List Cond := .code yX0_turn cX0_turn 3 (some .int) :: ((wsX0_turn_r1 ++ wsX0_turn_r2) ++ wsX00 ++ (vx_atS RX0 114 "java/lang/IllegalStateException" ["java/lang/RuntimeException", "java/lang/Exception"]).filter goodWord ++ (vx_atS RX0 254 "java/lang/IndexOutOfBoundsException" ["java/lang/RuntimeException", "java/lang/Exception"]).filter goodWord)
def wsX0_passedFork : List Cond := .code yX0_passedFork cX0_passedFork 3 (some .int) :: ([.fieldLink RX0 47 "ExamGarden" "passedForks" "[I", .methodLink RX0 100 yX0_at, .static yX0_at, .initialized RX0, .code yX0_at cX0_at 2 (some .int)] ++ wsX00)
def wsX0_goBack : List Cond := .code yX0_goBack cX0_goBack 4 (some .int) :: ([.classLink RX0 110 "java/lang/IllegalStateException", .initialized "java/lang/IllegalStateException", .fieldLink RX0 44 "ExamGarden" "passedCounts" "[I", .fieldLink RX0 41 "ExamGarden" "standing" "[I", .methodLink RX0 132 yX0_requireStudent, .instanceMethod yX0_requireStudent, .selects RX0 yX0_requireStudent yX0_requireStudent, .initialized RX0, .code yX0_requireStudent cX0_requireStudent 2 none, .classLink RX0 250 "java/lang/IndexOutOfBoundsException", .initialized "java/lang/IndexOutOfBoundsException", .fieldLink RX0 127 "ExamGarden" "studentCount" "I", .methodLink RX0 100 yX0_at, .static yX0_at, .code yX0_at cX0_at 2 (some .int), .methodLink RX0 146 yX0_passedFork, .instanceMethod yX0_passedFork, .selects RX0 yX0_passedFork yX0_passedFork, .code yX0_passedFork cX0_passedFork 3 (some .int), .fieldLink RX0 47 "ExamGarden" "passedForks" "[I", .methodLink RX0 72 yX0_put, .static yX0_put, .code yX0_put cX0_put 3 none] ++ wsX00 ++ (vx_atS RX0 114 "java/lang/IllegalStateException" ["java/lang/RuntimeException", "java/lang/Exception"]).filter goodWord ++ (vx_atS RX0 254 "java/lang/IndexOutOfBoundsException" ["java/lang/RuntimeException", "java/lang/Exception"]).filter goodWord)
def wsX0_riskOfPath : List Cond := .code yX0_riskOfPath cX0_riskOfPath 5 (some .int) :: ([.fieldLink RX0 28 "ExamGarden" "sureGrades" "[I", .fieldLink RX0 31 "ExamGarden" "hopes" "[I", .methodLink RX0 269 Lib.Math.max.name, .static Lib.Math.max.name, .initialized "java/lang/Math", .code Lib.Math.max.name Lib.Math.max.code 2 (some .int), .fieldLink RX0 22 "ExamGarden" "weights" "[I", .methodLink RX0 163 yX0_pathFrom, .instanceMethod yX0_pathFrom, .selects RX0 yX0_pathFrom yX0_pathFrom, .initialized RX0, .code yX0_pathFrom cX0_pathFrom 3 (some .int), .fieldLink RX0 19 "ExamGarden" "rights" "[I", .fieldLink RX0 16 "ExamGarden" "lefts" "[I", .methodLink RX0 100 yX0_at, .static yX0_at, .code yX0_at cX0_at 2 (some .int)] ++ wsX00)
def wsX0_plansRight : List Cond := .code yX0_plansRight cX0_plansRight 2 (some .boolean) :: ([.methodLink RX0 159 yX0_riskOfPath, .instanceMethod yX0_riskOfPath, .selects RX0 yX0_riskOfPath yX0_riskOfPath, .initialized RX0, .code yX0_riskOfPath cX0_riskOfPath 5 (some .int), .fieldLink RX0 28 "ExamGarden" "sureGrades" "[I", .fieldLink RX0 31 "ExamGarden" "hopes" "[I", .methodLink RX0 269 Lib.Math.max.name, .static Lib.Math.max.name, .initialized "java/lang/Math", .code Lib.Math.max.name Lib.Math.max.code 2 (some .int), .fieldLink RX0 22 "ExamGarden" "weights" "[I", .methodLink RX0 163 yX0_pathFrom, .instanceMethod yX0_pathFrom, .selects RX0 yX0_pathFrom yX0_pathFrom, .code yX0_pathFrom cX0_pathFrom 3 (some .int), .fieldLink RX0 19 "ExamGarden" "rights" "[I", .fieldLink RX0 16 "ExamGarden" "lefts" "[I", .methodLink RX0 100 yX0_at, .static yX0_at, .code yX0_at cX0_at 2 (some .int)] ++ wsX00)
def wsX0_follow_r1 : List Cond := [Cond.fieldLink RX0 41 "ExamGarden" "standing" "[I", Cond.methodLink RX0 132 yX0_requireStudent, Cond.instanceMethod yX0_requireStudent, Cond.selects RX0 yX0_requireStudent yX0_requireStudent, Cond.initialized RX0, Cond.code yX0_requireStudent cX0_requireStudent 2 none, Cond.classLink RX0 250 "java/lang/IndexOutOfBoundsException", Cond.initialized "java/lang/IndexOutOfBoundsException", Cond.fieldLink RX0 127 "ExamGarden" "studentCount" "I", Cond.methodLink RX0 100 yX0_at, Cond.static yX0_at, Cond.code yX0_at cX0_at 2 (some .int), Cond.methodLink RX0 135 yX0_holdsExam, Cond.instanceMethod yX0_holdsExam, Cond.selects RX0 yX0_holdsExam yX0_holdsExam, Cond.code yX0_holdsExam cX0_holdsExam 2 (some .boolean), Cond.fieldLink RX0 64 "ExamGarden" "examBits" "J", Cond.methodLink RX0 68 yX0_bitOf, Cond.static yX0_bitOf, Cond.code yX0_bitOf cX0_bitOf 1 (some .long), Cond.methodLink RX0 150 yX0_plansRight, Cond.instanceMethod yX0_plansRight, Cond.selects RX0 yX0_plansRight yX0_plansRight, Cond.code yX0_plansRight cX0_plansRight 2 (some .boolean)]
def wsX0_follow_r2 : List Cond := [Cond.methodLink RX0 159 yX0_riskOfPath, Cond.instanceMethod yX0_riskOfPath, Cond.selects RX0 yX0_riskOfPath yX0_riskOfPath, Cond.code yX0_riskOfPath cX0_riskOfPath 5 (some .int), Cond.fieldLink RX0 28 "ExamGarden" "sureGrades" "[I", Cond.fieldLink RX0 31 "ExamGarden" "hopes" "[I", Cond.methodLink RX0 269 Lib.Math.max.name, Cond.static Lib.Math.max.name, Cond.initialized "java/lang/Math", Cond.code Lib.Math.max.name Lib.Math.max.code 2 (some .int), Cond.fieldLink RX0 22 "ExamGarden" "weights" "[I", Cond.methodLink RX0 163 yX0_pathFrom, Cond.instanceMethod yX0_pathFrom, Cond.selects RX0 yX0_pathFrom yX0_pathFrom, Cond.code yX0_pathFrom cX0_pathFrom 3 (some .int), Cond.fieldLink RX0 19 "ExamGarden" "rights" "[I", Cond.fieldLink RX0 16 "ExamGarden" "lefts" "[I", Cond.methodLink RX0 140 yX0_walk, Cond.instanceMethod yX0_walk, Cond.selects RX0 yX0_walk yX0_walk, Cond.code yX0_walk cX0_walk 5 none, Cond.fieldLink RX0 44 "ExamGarden" "passedCounts" "[I", Cond.fieldLink RX0 47 "ExamGarden" "passedForks" "[I", Cond.methodLink RX0 72 yX0_put]
def wsX0_follow_r3 : List Cond := [Cond.static yX0_put, Cond.code yX0_put cX0_put 3 none]
def wsX0_follow : List Cond := .code yX0_follow cX0_follow 3 (some .int) :: ((wsX0_follow_r1 ++ (wsX0_follow_r2 ++ wsX0_follow_r3)) ++ wsX00 ++ (vx_atS RX0 254 "java/lang/IndexOutOfBoundsException" ["java/lang/RuntimeException", "java/lang/Exception"]).filter goodWord)
def wsX0_places : List Cond := .code yX0_places cX0_places 1 (some .int) :: ([.fieldLink RX0 60 "ExamGarden" "placeCount" "I"] ++ wsX00)
def wsJ13_bitCount_95d88 : List Cond := .code yJ13_bitCount_95d88 cJ13_bitCount_95d88 2 (some .int) :: ([.constantLong RJ13 314 (6148914691236517205), .constantLong RJ13 316 (3689348814741910323), .constantLong RJ13 318 (1085102592571150095)])
def wsX0_exams : List Cond := .code yX0_exams cX0_exams 1 (some .int) :: ([.fieldLink RX0 64 "ExamGarden" "examBits" "J", .methodLink RX0 153 yJ13_bitCount_95d88, .static yJ13_bitCount_95d88, .initialized RJ13, .code yJ13_bitCount_95d88 cJ13_bitCount_95d88 2 (some .int), .constantLong RJ13 314 (6148914691236517205), .constantLong RJ13 316 (3689348814741910323), .constantLong RJ13 318 (1085102592571150095)] ++ wsX00)
def wsX0_graded : List Cond := .code yX0_graded cX0_graded 1 (some .int) :: ([.fieldLink RX0 115 "ExamGarden" "gradedCount" "I"] ++ wsX00)
def wsX0_students : List Cond := .code yX0_students cX0_students 1 (some .int) :: ([.fieldLink RX0 127 "ExamGarden" "studentCount" "I"] ++ wsX00)
def wsX0_atExams : List Cond := .code yX0_atExams cX0_atExams 3 (some .int) :: ([.fieldLink RX0 127 "ExamGarden" "studentCount" "I", .fieldLink RX0 41 "ExamGarden" "standing" "[I", .methodLink RX0 100 yX0_at, .static yX0_at, .initialized RX0, .code yX0_at cX0_at 2 (some .int), .methodLink RX0 135 yX0_holdsExam, .instanceMethod yX0_holdsExam, .selects RX0 yX0_holdsExam yX0_holdsExam, .code yX0_holdsExam cX0_holdsExam 2 (some .boolean), .fieldLink RX0 64 "ExamGarden" "examBits" "J", .methodLink RX0 68 yX0_bitOf, .static yX0_bitOf, .code yX0_bitOf cX0_bitOf 1 (some .long)] ++ wsX00)
def wsX0_isExam : List Cond := .code yX0_isExam cX0_isExam 2 (some .boolean) :: ([.methodLink RX0 84 yX0_requirePlace, .instanceMethod yX0_requirePlace, .selects RX0 yX0_requirePlace yX0_requirePlace, .initialized RX0, .code yX0_requirePlace cX0_requirePlace 2 none, .classLink RX0 250 "java/lang/IndexOutOfBoundsException", .initialized "java/lang/IndexOutOfBoundsException", .fieldLink RX0 60 "ExamGarden" "placeCount" "I", .methodLink RX0 135 yX0_holdsExam, .instanceMethod yX0_holdsExam, .selects RX0 yX0_holdsExam yX0_holdsExam, .code yX0_holdsExam cX0_holdsExam 2 (some .boolean), .fieldLink RX0 64 "ExamGarden" "examBits" "J", .methodLink RX0 68 yX0_bitOf, .static yX0_bitOf, .code yX0_bitOf cX0_bitOf 1 (some .long)] ++ wsX00 ++ (vx_atS RX0 254 "java/lang/IndexOutOfBoundsException" ["java/lang/RuntimeException", "java/lang/Exception"]).filter goodWord)
def wsX0_isGraded_r1 : List Cond := [Cond.methodLink RX0 97 yX0_requireExam, Cond.instanceMethod yX0_requireExam, Cond.selects RX0 yX0_requireExam yX0_requireExam, Cond.initialized RX0, Cond.code yX0_requireExam cX0_requireExam 2 none, Cond.classLink RX0 250 "java/lang/IndexOutOfBoundsException", Cond.initialized "java/lang/IndexOutOfBoundsException", Cond.methodLink RX0 84 yX0_requirePlace, Cond.instanceMethod yX0_requirePlace, Cond.selects RX0 yX0_requirePlace yX0_requirePlace, Cond.code yX0_requirePlace cX0_requirePlace 2 none, Cond.fieldLink RX0 60 "ExamGarden" "placeCount" "I", Cond.methodLink RX0 135 yX0_holdsExam, Cond.instanceMethod yX0_holdsExam, Cond.selects RX0 yX0_holdsExam yX0_holdsExam, Cond.code yX0_holdsExam cX0_holdsExam 2 (some .boolean), Cond.fieldLink RX0 64 "ExamGarden" "examBits" "J", Cond.methodLink RX0 68 yX0_bitOf, Cond.static yX0_bitOf, Cond.code yX0_bitOf cX0_bitOf 1 (some .long), Cond.methodLink RX0 106 yX0_hasGrade, Cond.instanceMethod yX0_hasGrade, Cond.selects RX0 yX0_hasGrade yX0_hasGrade, Cond.code yX0_hasGrade cX0_hasGrade 2 (some .boolean)]
def wsX0_isGraded_r2 : List Cond := [Cond.fieldLink RX0 25 "ExamGarden" "grades" "[I", Cond.methodLink RX0 100 yX0_at, Cond.static yX0_at, Cond.code yX0_at cX0_at 2 (some .int)]
def wsX0_isGraded : List Cond := .code yX0_isGraded cX0_isGraded 2 (some .boolean) :: ((wsX0_isGraded_r1 ++ wsX0_isGraded_r2) ++ wsX00 ++ (vx_atS RX0 254 "java/lang/IndexOutOfBoundsException" ["java/lang/RuntimeException", "java/lang/Exception"]).filter goodWord)
def wsX0_gradeOf : List Cond := .code yX0_gradeOf cX0_gradeOf 2 (some .int) :: ([.fieldLink RX0 25 "ExamGarden" "grades" "[I", .methodLink RX0 97 yX0_requireExam, .instanceMethod yX0_requireExam, .selects RX0 yX0_requireExam yX0_requireExam, .initialized RX0, .code yX0_requireExam cX0_requireExam 2 none, .classLink RX0 250 "java/lang/IndexOutOfBoundsException", .initialized "java/lang/IndexOutOfBoundsException", .methodLink RX0 84 yX0_requirePlace, .instanceMethod yX0_requirePlace, .selects RX0 yX0_requirePlace yX0_requirePlace, .code yX0_requirePlace cX0_requirePlace 2 none, .fieldLink RX0 60 "ExamGarden" "placeCount" "I", .methodLink RX0 135 yX0_holdsExam, .instanceMethod yX0_holdsExam, .selects RX0 yX0_holdsExam yX0_holdsExam, .code yX0_holdsExam cX0_holdsExam 2 (some .boolean), .fieldLink RX0 64 "ExamGarden" "examBits" "J", .methodLink RX0 68 yX0_bitOf, .static yX0_bitOf, .code yX0_bitOf cX0_bitOf 1 (some .long), .methodLink RX0 100 yX0_at, .static yX0_at, .code yX0_at cX0_at 2 (some .int)] ++ wsX00 ++ (vx_atS RX0 254 "java/lang/IndexOutOfBoundsException" ["java/lang/RuntimeException", "java/lang/Exception"]).filter goodWord)
def wsX0_leftOf : List Cond := .code yX0_leftOf cX0_leftOf 2 (some .int) :: ([.fieldLink RX0 16 "ExamGarden" "lefts" "[I", .methodLink RX0 124 yX0_requireFork, .instanceMethod yX0_requireFork, .selects RX0 yX0_requireFork yX0_requireFork, .initialized RX0, .code yX0_requireFork cX0_requireFork 2 none, .classLink RX0 250 "java/lang/IndexOutOfBoundsException", .initialized "java/lang/IndexOutOfBoundsException", .methodLink RX0 84 yX0_requirePlace, .instanceMethod yX0_requirePlace, .selects RX0 yX0_requirePlace yX0_requirePlace, .code yX0_requirePlace cX0_requirePlace 2 none, .fieldLink RX0 60 "ExamGarden" "placeCount" "I", .methodLink RX0 135 yX0_holdsExam, .instanceMethod yX0_holdsExam, .selects RX0 yX0_holdsExam yX0_holdsExam, .code yX0_holdsExam cX0_holdsExam 2 (some .boolean), .fieldLink RX0 64 "ExamGarden" "examBits" "J", .methodLink RX0 68 yX0_bitOf, .static yX0_bitOf, .code yX0_bitOf cX0_bitOf 1 (some .long), .methodLink RX0 100 yX0_at, .static yX0_at, .code yX0_at cX0_at 2 (some .int)] ++ wsX00 ++ (vx_atS RX0 254 "java/lang/IndexOutOfBoundsException" ["java/lang/RuntimeException", "java/lang/Exception"]).filter goodWord)
def wsX0_rightOf : List Cond := .code yX0_rightOf cX0_rightOf 2 (some .int) :: ([.fieldLink RX0 19 "ExamGarden" "rights" "[I", .methodLink RX0 124 yX0_requireFork, .instanceMethod yX0_requireFork, .selects RX0 yX0_requireFork yX0_requireFork, .initialized RX0, .code yX0_requireFork cX0_requireFork 2 none, .classLink RX0 250 "java/lang/IndexOutOfBoundsException", .initialized "java/lang/IndexOutOfBoundsException", .methodLink RX0 84 yX0_requirePlace, .instanceMethod yX0_requirePlace, .selects RX0 yX0_requirePlace yX0_requirePlace, .code yX0_requirePlace cX0_requirePlace 2 none, .fieldLink RX0 60 "ExamGarden" "placeCount" "I", .methodLink RX0 135 yX0_holdsExam, .instanceMethod yX0_holdsExam, .selects RX0 yX0_holdsExam yX0_holdsExam, .code yX0_holdsExam cX0_holdsExam 2 (some .boolean), .fieldLink RX0 64 "ExamGarden" "examBits" "J", .methodLink RX0 68 yX0_bitOf, .static yX0_bitOf, .code yX0_bitOf cX0_bitOf 1 (some .long), .methodLink RX0 100 yX0_at, .static yX0_at, .code yX0_at cX0_at 2 (some .int)] ++ wsX00 ++ (vx_atS RX0 254 "java/lang/IndexOutOfBoundsException" ["java/lang/RuntimeException", "java/lang/Exception"]).filter goodWord)
def wsX0_weightOf : List Cond := .code yX0_weightOf cX0_weightOf 2 (some .int) :: ([.fieldLink RX0 22 "ExamGarden" "weights" "[I", .methodLink RX0 124 yX0_requireFork, .instanceMethod yX0_requireFork, .selects RX0 yX0_requireFork yX0_requireFork, .initialized RX0, .code yX0_requireFork cX0_requireFork 2 none, .classLink RX0 250 "java/lang/IndexOutOfBoundsException", .initialized "java/lang/IndexOutOfBoundsException", .methodLink RX0 84 yX0_requirePlace, .instanceMethod yX0_requirePlace, .selects RX0 yX0_requirePlace yX0_requirePlace, .code yX0_requirePlace cX0_requirePlace 2 none, .fieldLink RX0 60 "ExamGarden" "placeCount" "I", .methodLink RX0 135 yX0_holdsExam, .instanceMethod yX0_holdsExam, .selects RX0 yX0_holdsExam yX0_holdsExam, .code yX0_holdsExam cX0_holdsExam 2 (some .boolean), .fieldLink RX0 64 "ExamGarden" "examBits" "J", .methodLink RX0 68 yX0_bitOf, .static yX0_bitOf, .code yX0_bitOf cX0_bitOf 1 (some .long), .methodLink RX0 100 yX0_at, .static yX0_at, .code yX0_at cX0_at 2 (some .int)] ++ wsX00 ++ (vx_atS RX0 254 "java/lang/IndexOutOfBoundsException" ["java/lang/RuntimeException", "java/lang/Exception"]).filter goodWord)
def wsX0_placeOf : List Cond := .code yX0_placeOf cX0_placeOf 2 (some .int) :: ([.fieldLink RX0 41 "ExamGarden" "standing" "[I", .methodLink RX0 132 yX0_requireStudent, .instanceMethod yX0_requireStudent, .selects RX0 yX0_requireStudent yX0_requireStudent, .initialized RX0, .code yX0_requireStudent cX0_requireStudent 2 none, .classLink RX0 250 "java/lang/IndexOutOfBoundsException", .initialized "java/lang/IndexOutOfBoundsException", .fieldLink RX0 127 "ExamGarden" "studentCount" "I", .methodLink RX0 100 yX0_at, .static yX0_at, .code yX0_at cX0_at 2 (some .int)] ++ wsX00 ++ (vx_atS RX0 254 "java/lang/IndexOutOfBoundsException" ["java/lang/RuntimeException", "java/lang/Exception"]).filter goodWord)
def wsX0_passedBy : List Cond := .code yX0_passedBy cX0_passedBy 2 (some .int) :: ([.fieldLink RX0 44 "ExamGarden" "passedCounts" "[I", .methodLink RX0 132 yX0_requireStudent, .instanceMethod yX0_requireStudent, .selects RX0 yX0_requireStudent yX0_requireStudent, .initialized RX0, .code yX0_requireStudent cX0_requireStudent 2 none, .classLink RX0 250 "java/lang/IndexOutOfBoundsException", .initialized "java/lang/IndexOutOfBoundsException", .fieldLink RX0 127 "ExamGarden" "studentCount" "I", .methodLink RX0 100 yX0_at, .static yX0_at, .code yX0_at cX0_at 2 (some .int)] ++ wsX00 ++ (vx_atS RX0 254 "java/lang/IndexOutOfBoundsException" ["java/lang/RuntimeException", "java/lang/Exception"]).filter goodWord)
def wsX0_sureGrade : List Cond := .code yX0_sureGrade cX0_sureGrade 2 (some .int) :: ([.fieldLink RX0 28 "ExamGarden" "sureGrades" "[I", .methodLink RX0 84 yX0_requirePlace, .instanceMethod yX0_requirePlace, .selects RX0 yX0_requirePlace yX0_requirePlace, .initialized RX0, .code yX0_requirePlace cX0_requirePlace 2 none, .classLink RX0 250 "java/lang/IndexOutOfBoundsException", .initialized "java/lang/IndexOutOfBoundsException", .fieldLink RX0 60 "ExamGarden" "placeCount" "I", .methodLink RX0 100 yX0_at, .static yX0_at, .code yX0_at cX0_at 2 (some .int)] ++ wsX00 ++ (vx_atS RX0 254 "java/lang/IndexOutOfBoundsException" ["java/lang/RuntimeException", "java/lang/Exception"]).filter goodWord)
def wsX0_hope : List Cond := .code yX0_hope cX0_hope 2 (some .int) :: ([.fieldLink RX0 31 "ExamGarden" "hopes" "[I", .methodLink RX0 84 yX0_requirePlace, .instanceMethod yX0_requirePlace, .selects RX0 yX0_requirePlace yX0_requirePlace, .initialized RX0, .code yX0_requirePlace cX0_requirePlace 2 none, .classLink RX0 250 "java/lang/IndexOutOfBoundsException", .initialized "java/lang/IndexOutOfBoundsException", .fieldLink RX0 60 "ExamGarden" "placeCount" "I", .methodLink RX0 100 yX0_at, .static yX0_at, .code yX0_at cX0_at 2 (some .int)] ++ wsX00 ++ (vx_atS RX0 254 "java/lang/IndexOutOfBoundsException" ["java/lang/RuntimeException", "java/lang/Exception"]).filter goodWord)
def wsX0_reaches : List Cond := .code yX0_reaches cX0_reaches 3 (some .boolean) :: ([.fieldLink RX0 37 "ExamGarden" "reachedBits" "[J", .methodLink RX0 84 yX0_requirePlace, .instanceMethod yX0_requirePlace, .selects RX0 yX0_requirePlace yX0_requirePlace, .initialized RX0, .code yX0_requirePlace cX0_requirePlace 2 none, .classLink RX0 250 "java/lang/IndexOutOfBoundsException", .initialized "java/lang/IndexOutOfBoundsException", .fieldLink RX0 60 "ExamGarden" "placeCount" "I", .methodLink RX0 90 yX0_bitsAt, .static yX0_bitsAt, .code yX0_bitsAt cX0_bitsAt 2 (some .long), .methodLink RX0 68 yX0_bitOf, .static yX0_bitOf, .code yX0_bitOf cX0_bitOf 1 (some .long)] ++ wsX00 ++ (vx_atS RX0 254 "java/lang/IndexOutOfBoundsException" ["java/lang/RuntimeException", "java/lang/Exception"]).filter goodWord)
def wsX0_examsFrom : List Cond := .code yX0_examsFrom cX0_examsFrom 2 (some .int) :: ([.fieldLink RX0 37 "ExamGarden" "reachedBits" "[J", .fieldLink RX0 64 "ExamGarden" "examBits" "J", .methodLink RX0 84 yX0_requirePlace, .instanceMethod yX0_requirePlace, .selects RX0 yX0_requirePlace yX0_requirePlace, .initialized RX0, .code yX0_requirePlace cX0_requirePlace 2 none, .classLink RX0 250 "java/lang/IndexOutOfBoundsException", .initialized "java/lang/IndexOutOfBoundsException", .fieldLink RX0 60 "ExamGarden" "placeCount" "I", .methodLink RX0 90 yX0_bitsAt, .static yX0_bitsAt, .code yX0_bitsAt cX0_bitsAt 2 (some .long), .methodLink RX0 153 yJ13_bitCount_95d88, .static yJ13_bitCount_95d88, .initialized RJ13, .code yJ13_bitCount_95d88 cJ13_bitCount_95d88 2 (some .int), .constantLong RJ13 314 (6148914691236517205), .constantLong RJ13 316 (3689348814741910323), .constantLong RJ13 318 (1085102592571150095)] ++ wsX00 ++ (vx_atS RX0 254 "java/lang/IndexOutOfBoundsException" ["java/lang/RuntimeException", "java/lang/Exception"]).filter goodWord)
def wsX0_risk_r1 : List Cond := [Cond.methodLink RX0 124 yX0_requireFork, Cond.instanceMethod yX0_requireFork, Cond.selects RX0 yX0_requireFork yX0_requireFork, Cond.initialized RX0, Cond.code yX0_requireFork cX0_requireFork 2 none, Cond.classLink RX0 250 "java/lang/IndexOutOfBoundsException", Cond.initialized "java/lang/IndexOutOfBoundsException", Cond.methodLink RX0 84 yX0_requirePlace, Cond.instanceMethod yX0_requirePlace, Cond.selects RX0 yX0_requirePlace yX0_requirePlace, Cond.code yX0_requirePlace cX0_requirePlace 2 none, Cond.fieldLink RX0 60 "ExamGarden" "placeCount" "I", Cond.methodLink RX0 135 yX0_holdsExam, Cond.instanceMethod yX0_holdsExam, Cond.selects RX0 yX0_holdsExam yX0_holdsExam, Cond.code yX0_holdsExam cX0_holdsExam 2 (some .boolean), Cond.fieldLink RX0 64 "ExamGarden" "examBits" "J", Cond.methodLink RX0 68 yX0_bitOf, Cond.static yX0_bitOf, Cond.code yX0_bitOf cX0_bitOf 1 (some .long), Cond.methodLink RX0 159 yX0_riskOfPath, Cond.instanceMethod yX0_riskOfPath, Cond.selects RX0 yX0_riskOfPath yX0_riskOfPath, Cond.code yX0_riskOfPath cX0_riskOfPath 5 (some .int)]
def wsX0_risk_r2 : List Cond := [Cond.fieldLink RX0 28 "ExamGarden" "sureGrades" "[I", Cond.fieldLink RX0 31 "ExamGarden" "hopes" "[I", Cond.methodLink RX0 269 Lib.Math.max.name, Cond.static Lib.Math.max.name, Cond.initialized "java/lang/Math", Cond.code Lib.Math.max.name Lib.Math.max.code 2 (some .int), Cond.fieldLink RX0 22 "ExamGarden" "weights" "[I", Cond.methodLink RX0 163 yX0_pathFrom, Cond.instanceMethod yX0_pathFrom, Cond.selects RX0 yX0_pathFrom yX0_pathFrom, Cond.code yX0_pathFrom cX0_pathFrom 3 (some .int), Cond.fieldLink RX0 19 "ExamGarden" "rights" "[I", Cond.fieldLink RX0 16 "ExamGarden" "lefts" "[I", Cond.methodLink RX0 100 yX0_at, Cond.static yX0_at, Cond.code yX0_at cX0_at 2 (some .int)]
def wsX0_risk : List Cond := .code yX0_risk cX0_risk 3 (some .int) :: ((wsX0_risk_r1 ++ wsX0_risk_r2) ++ wsX00 ++ (vx_atS RX0 254 "java/lang/IndexOutOfBoundsException" ["java/lang/RuntimeException", "java/lang/Exception"]).filter goodWord)
def wsX0_planTurnsRight_r1 : List Cond := [Cond.methodLink RX0 124 yX0_requireFork, Cond.instanceMethod yX0_requireFork, Cond.selects RX0 yX0_requireFork yX0_requireFork, Cond.initialized RX0, Cond.code yX0_requireFork cX0_requireFork 2 none, Cond.classLink RX0 250 "java/lang/IndexOutOfBoundsException", Cond.initialized "java/lang/IndexOutOfBoundsException", Cond.methodLink RX0 84 yX0_requirePlace, Cond.instanceMethod yX0_requirePlace, Cond.selects RX0 yX0_requirePlace yX0_requirePlace, Cond.code yX0_requirePlace cX0_requirePlace 2 none, Cond.fieldLink RX0 60 "ExamGarden" "placeCount" "I", Cond.methodLink RX0 135 yX0_holdsExam, Cond.instanceMethod yX0_holdsExam, Cond.selects RX0 yX0_holdsExam yX0_holdsExam, Cond.code yX0_holdsExam cX0_holdsExam 2 (some .boolean), Cond.fieldLink RX0 64 "ExamGarden" "examBits" "J", Cond.methodLink RX0 68 yX0_bitOf, Cond.static yX0_bitOf, Cond.code yX0_bitOf cX0_bitOf 1 (some .long), Cond.methodLink RX0 150 yX0_plansRight, Cond.instanceMethod yX0_plansRight, Cond.selects RX0 yX0_plansRight yX0_plansRight, Cond.code yX0_plansRight cX0_plansRight 2 (some .boolean)]
def wsX0_planTurnsRight_r2 : List Cond := [Cond.methodLink RX0 159 yX0_riskOfPath, Cond.instanceMethod yX0_riskOfPath, Cond.selects RX0 yX0_riskOfPath yX0_riskOfPath, Cond.code yX0_riskOfPath cX0_riskOfPath 5 (some .int), Cond.fieldLink RX0 28 "ExamGarden" "sureGrades" "[I", Cond.fieldLink RX0 31 "ExamGarden" "hopes" "[I", Cond.methodLink RX0 269 Lib.Math.max.name, Cond.static Lib.Math.max.name, Cond.initialized "java/lang/Math", Cond.code Lib.Math.max.name Lib.Math.max.code 2 (some .int), Cond.fieldLink RX0 22 "ExamGarden" "weights" "[I", Cond.methodLink RX0 163 yX0_pathFrom, Cond.instanceMethod yX0_pathFrom, Cond.selects RX0 yX0_pathFrom yX0_pathFrom, Cond.code yX0_pathFrom cX0_pathFrom 3 (some .int), Cond.fieldLink RX0 19 "ExamGarden" "rights" "[I", Cond.fieldLink RX0 16 "ExamGarden" "lefts" "[I", Cond.methodLink RX0 100 yX0_at, Cond.static yX0_at, Cond.code yX0_at cX0_at 2 (some .int)]
def wsX0_planTurnsRight : List Cond := .code yX0_planTurnsRight cX0_planTurnsRight 2 (some .boolean) :: ((wsX0_planTurnsRight_r1 ++ wsX0_planTurnsRight_r2) ++ wsX00 ++ (vx_atS RX0 254 "java/lang/IndexOutOfBoundsException" ["java/lang/RuntimeException", "java/lang/Exception"]).filter goodWord)
def wsX0_planLeadsTo_r1 : List Cond := [Cond.methodLink RX0 84 yX0_requirePlace, Cond.instanceMethod yX0_requirePlace, Cond.selects RX0 yX0_requirePlace yX0_requirePlace, Cond.initialized RX0, Cond.code yX0_requirePlace cX0_requirePlace 2 none, Cond.classLink RX0 250 "java/lang/IndexOutOfBoundsException", Cond.initialized "java/lang/IndexOutOfBoundsException", Cond.fieldLink RX0 60 "ExamGarden" "placeCount" "I", Cond.methodLink RX0 135 yX0_holdsExam, Cond.instanceMethod yX0_holdsExam, Cond.selects RX0 yX0_holdsExam yX0_holdsExam, Cond.code yX0_holdsExam cX0_holdsExam 2 (some .boolean), Cond.fieldLink RX0 64 "ExamGarden" "examBits" "J", Cond.methodLink RX0 68 yX0_bitOf, Cond.static yX0_bitOf, Cond.code yX0_bitOf cX0_bitOf 1 (some .long), Cond.methodLink RX0 150 yX0_plansRight, Cond.instanceMethod yX0_plansRight, Cond.selects RX0 yX0_plansRight yX0_plansRight, Cond.code yX0_plansRight cX0_plansRight 2 (some .boolean), Cond.methodLink RX0 159 yX0_riskOfPath, Cond.instanceMethod yX0_riskOfPath, Cond.selects RX0 yX0_riskOfPath yX0_riskOfPath, Cond.code yX0_riskOfPath cX0_riskOfPath 5 (some .int)]
def wsX0_planLeadsTo_r2 : List Cond := [Cond.fieldLink RX0 28 "ExamGarden" "sureGrades" "[I", Cond.fieldLink RX0 31 "ExamGarden" "hopes" "[I", Cond.methodLink RX0 269 Lib.Math.max.name, Cond.static Lib.Math.max.name, Cond.initialized "java/lang/Math", Cond.code Lib.Math.max.name Lib.Math.max.code 2 (some .int), Cond.fieldLink RX0 22 "ExamGarden" "weights" "[I", Cond.methodLink RX0 163 yX0_pathFrom, Cond.instanceMethod yX0_pathFrom, Cond.selects RX0 yX0_pathFrom yX0_pathFrom, Cond.code yX0_pathFrom cX0_pathFrom 3 (some .int), Cond.fieldLink RX0 19 "ExamGarden" "rights" "[I", Cond.fieldLink RX0 16 "ExamGarden" "lefts" "[I", Cond.methodLink RX0 100 yX0_at, Cond.static yX0_at, Cond.code yX0_at cX0_at 2 (some .int)]
def wsX0_planLeadsTo : List Cond := .code yX0_planLeadsTo cX0_planLeadsTo 4 (some .int) :: ((wsX0_planLeadsTo_r1 ++ wsX0_planLeadsTo_r2) ++ wsX00 ++ (vx_atS RX0 254 "java/lang/IndexOutOfBoundsException" ["java/lang/RuntimeException", "java/lang/Exception"]).filter goodWord)
def wsX0_smallerRisk : List Cond := .code yX0_smallerRisk cX0_smallerRisk 2 (some .int) :: ([.methodLink RX0 274 Lib.Math.min.name, .static Lib.Math.min.name, .initialized "java/lang/Math", .code Lib.Math.min.name Lib.Math.min.code 2 (some .int), .methodLink RX0 159 yX0_riskOfPath, .instanceMethod yX0_riskOfPath, .selects RX0 yX0_riskOfPath yX0_riskOfPath, .initialized RX0, .code yX0_riskOfPath cX0_riskOfPath 5 (some .int), .fieldLink RX0 28 "ExamGarden" "sureGrades" "[I", .fieldLink RX0 31 "ExamGarden" "hopes" "[I", .methodLink RX0 269 Lib.Math.max.name, .static Lib.Math.max.name, .code Lib.Math.max.name Lib.Math.max.code 2 (some .int), .fieldLink RX0 22 "ExamGarden" "weights" "[I", .methodLink RX0 163 yX0_pathFrom, .instanceMethod yX0_pathFrom, .selects RX0 yX0_pathFrom yX0_pathFrom, .code yX0_pathFrom cX0_pathFrom 3 (some .int), .fieldLink RX0 19 "ExamGarden" "rights" "[I", .fieldLink RX0 16 "ExamGarden" "lefts" "[I", .methodLink RX0 100 yX0_at, .static yX0_at, .code yX0_at cX0_at 2 (some .int)] ++ wsX00)
def wsX0_riskiestFork_r1 : List Cond := [Cond.fieldLink RX0 60 "ExamGarden" "placeCount" "I", Cond.methodLink RX0 135 yX0_holdsExam, Cond.instanceMethod yX0_holdsExam, Cond.selects RX0 yX0_holdsExam yX0_holdsExam, Cond.initialized RX0, Cond.code yX0_holdsExam cX0_holdsExam 2 (some .boolean), Cond.fieldLink RX0 64 "ExamGarden" "examBits" "J", Cond.methodLink RX0 68 yX0_bitOf, Cond.static yX0_bitOf, Cond.code yX0_bitOf cX0_bitOf 1 (some .long), Cond.methodLink RX0 166 yX0_smallerRisk, Cond.instanceMethod yX0_smallerRisk, Cond.selects RX0 yX0_smallerRisk yX0_smallerRisk, Cond.code yX0_smallerRisk cX0_smallerRisk 2 (some .int), Cond.methodLink RX0 274 Lib.Math.min.name, Cond.static Lib.Math.min.name, Cond.initialized "java/lang/Math", Cond.code Lib.Math.min.name Lib.Math.min.code 2 (some .int), Cond.methodLink RX0 159 yX0_riskOfPath, Cond.instanceMethod yX0_riskOfPath, Cond.selects RX0 yX0_riskOfPath yX0_riskOfPath, Cond.code yX0_riskOfPath cX0_riskOfPath 5 (some .int), Cond.fieldLink RX0 28 "ExamGarden" "sureGrades" "[I", Cond.fieldLink RX0 31 "ExamGarden" "hopes" "[I"]
def wsX0_riskiestFork_r2 : List Cond := [Cond.methodLink RX0 269 Lib.Math.max.name, Cond.static Lib.Math.max.name, Cond.code Lib.Math.max.name Lib.Math.max.code 2 (some .int), Cond.fieldLink RX0 22 "ExamGarden" "weights" "[I", Cond.methodLink RX0 163 yX0_pathFrom, Cond.instanceMethod yX0_pathFrom, Cond.selects RX0 yX0_pathFrom yX0_pathFrom, Cond.code yX0_pathFrom cX0_pathFrom 3 (some .int), Cond.fieldLink RX0 19 "ExamGarden" "rights" "[I", Cond.fieldLink RX0 16 "ExamGarden" "lefts" "[I", Cond.methodLink RX0 100 yX0_at, Cond.static yX0_at, Cond.code yX0_at cX0_at 2 (some .int)]
def wsX0_riskiestFork : List Cond := .code yX0_riskiestFork cX0_riskiestFork 4 (some .int) :: ((wsX0_riskiestFork_r1 ++ wsX0_riskiestFork_r2) ++ wsX00)
def wsX0_hindsight : List Cond := .code yX0_hindsight cX0_hindsight 2 (some .int) :: ([.fieldLink RX0 34 "ExamGarden" "hindsights" "[I", .methodLink RX0 124 yX0_requireFork, .instanceMethod yX0_requireFork, .selects RX0 yX0_requireFork yX0_requireFork, .initialized RX0, .code yX0_requireFork cX0_requireFork 2 none, .classLink RX0 250 "java/lang/IndexOutOfBoundsException", .initialized "java/lang/IndexOutOfBoundsException", .methodLink RX0 84 yX0_requirePlace, .instanceMethod yX0_requirePlace, .selects RX0 yX0_requirePlace yX0_requirePlace, .code yX0_requirePlace cX0_requirePlace 2 none, .fieldLink RX0 60 "ExamGarden" "placeCount" "I", .methodLink RX0 135 yX0_holdsExam, .instanceMethod yX0_holdsExam, .selects RX0 yX0_holdsExam yX0_holdsExam, .code yX0_holdsExam cX0_holdsExam 2 (some .boolean), .fieldLink RX0 64 "ExamGarden" "examBits" "J", .methodLink RX0 68 yX0_bitOf, .static yX0_bitOf, .code yX0_bitOf cX0_bitOf 1 (some .long), .methodLink RX0 100 yX0_at, .static yX0_at, .code yX0_at cX0_at 2 (some .int)] ++ wsX00 ++ (vx_atS RX0 254 "java/lang/IndexOutOfBoundsException" ["java/lang/RuntimeException", "java/lang/Exception"]).filter goodWord)
def wsX0_requireGraded : List Cond := .code yX0_requireGraded cX0_requireGraded 2 none :: ([.classLink RX0 110 "java/lang/IllegalStateException", .initialized "java/lang/IllegalStateException", .fieldLink RX0 41 "ExamGarden" "standing" "[I", .methodLink RX0 100 yX0_at, .static yX0_at, .initialized RX0, .code yX0_at cX0_at 2 (some .int), .methodLink RX0 106 yX0_hasGrade, .instanceMethod yX0_hasGrade, .selects RX0 yX0_hasGrade yX0_hasGrade, .code yX0_hasGrade cX0_hasGrade 2 (some .boolean), .fieldLink RX0 25 "ExamGarden" "grades" "[I"] ++ wsX00 ++ (vx_atS RX0 114 "java/lang/IllegalStateException" ["java/lang/RuntimeException", "java/lang/Exception"]).filter goodWord)
def wsX0_regretOfStep : List Cond := .code yX0_regretOfStep cX0_regretOfStep 5 (some .int) :: ([.fieldLink RX0 25 "ExamGarden" "grades" "[I", .fieldLink RX0 41 "ExamGarden" "standing" "[I", .fieldLink RX0 34 "ExamGarden" "hindsights" "[I", .methodLink RX0 269 Lib.Math.max.name, .static Lib.Math.max.name, .initialized "java/lang/Math", .code Lib.Math.max.name Lib.Math.max.code 2 (some .int), .fieldLink RX0 22 "ExamGarden" "weights" "[I", .methodLink RX0 146 yX0_passedFork, .instanceMethod yX0_passedFork, .selects RX0 yX0_passedFork yX0_passedFork, .initialized RX0, .code yX0_passedFork cX0_passedFork 3 (some .int), .fieldLink RX0 47 "ExamGarden" "passedForks" "[I", .methodLink RX0 100 yX0_at, .static yX0_at, .code yX0_at cX0_at 2 (some .int)] ++ wsX00)
def wsX0_regretOfAll : List Cond := .code yX0_regretOfAll cX0_regretOfAll 5 (some .int) :: ([.fieldLink RX0 44 "ExamGarden" "passedCounts" "[I", .methodLink RX0 100 yX0_at, .static yX0_at, .initialized RX0, .code yX0_at cX0_at 2 (some .int), .methodLink RX0 176 yX0_regretOfStep, .instanceMethod yX0_regretOfStep, .selects RX0 yX0_regretOfStep yX0_regretOfStep, .code yX0_regretOfStep cX0_regretOfStep 5 (some .int), .fieldLink RX0 25 "ExamGarden" "grades" "[I", .fieldLink RX0 41 "ExamGarden" "standing" "[I", .fieldLink RX0 34 "ExamGarden" "hindsights" "[I", .methodLink RX0 269 Lib.Math.max.name, .static Lib.Math.max.name, .initialized "java/lang/Math", .code Lib.Math.max.name Lib.Math.max.code 2 (some .int), .fieldLink RX0 22 "ExamGarden" "weights" "[I", .methodLink RX0 146 yX0_passedFork, .instanceMethod yX0_passedFork, .selects RX0 yX0_passedFork yX0_passedFork, .code yX0_passedFork cX0_passedFork 3 (some .int), .fieldLink RX0 47 "ExamGarden" "passedForks" "[I"] ++ wsX00)
def wsX0_regretOf_r1 : List Cond := [Cond.methodLink RX0 132 yX0_requireStudent, Cond.instanceMethod yX0_requireStudent, Cond.selects RX0 yX0_requireStudent yX0_requireStudent, Cond.initialized RX0, Cond.code yX0_requireStudent cX0_requireStudent 2 none, Cond.classLink RX0 250 "java/lang/IndexOutOfBoundsException", Cond.initialized "java/lang/IndexOutOfBoundsException", Cond.fieldLink RX0 127 "ExamGarden" "studentCount" "I", Cond.methodLink RX0 170 yX0_requireGraded, Cond.instanceMethod yX0_requireGraded, Cond.selects RX0 yX0_requireGraded yX0_requireGraded, Cond.code yX0_requireGraded cX0_requireGraded 2 none, Cond.classLink RX0 110 "java/lang/IllegalStateException", Cond.initialized "java/lang/IllegalStateException", Cond.fieldLink RX0 41 "ExamGarden" "standing" "[I", Cond.methodLink RX0 100 yX0_at, Cond.static yX0_at, Cond.code yX0_at cX0_at 2 (some .int), Cond.methodLink RX0 106 yX0_hasGrade, Cond.instanceMethod yX0_hasGrade, Cond.selects RX0 yX0_hasGrade yX0_hasGrade, Cond.code yX0_hasGrade cX0_hasGrade 2 (some .boolean), Cond.fieldLink RX0 25 "ExamGarden" "grades" "[I", Cond.methodLink RX0 173 yX0_regretOfAll]
def wsX0_regretOf_r2 : List Cond := [Cond.instanceMethod yX0_regretOfAll, Cond.selects RX0 yX0_regretOfAll yX0_regretOfAll, Cond.code yX0_regretOfAll cX0_regretOfAll 5 (some .int), Cond.fieldLink RX0 44 "ExamGarden" "passedCounts" "[I", Cond.methodLink RX0 176 yX0_regretOfStep, Cond.instanceMethod yX0_regretOfStep, Cond.selects RX0 yX0_regretOfStep yX0_regretOfStep, Cond.code yX0_regretOfStep cX0_regretOfStep 5 (some .int), Cond.fieldLink RX0 34 "ExamGarden" "hindsights" "[I", Cond.methodLink RX0 269 Lib.Math.max.name, Cond.static Lib.Math.max.name, Cond.initialized "java/lang/Math", Cond.code Lib.Math.max.name Lib.Math.max.code 2 (some .int), Cond.fieldLink RX0 22 "ExamGarden" "weights" "[I", Cond.methodLink RX0 146 yX0_passedFork, Cond.instanceMethod yX0_passedFork, Cond.selects RX0 yX0_passedFork yX0_passedFork, Cond.code yX0_passedFork cX0_passedFork 3 (some .int), Cond.fieldLink RX0 47 "ExamGarden" "passedForks" "[I"]
def wsX0_regretOf : List Cond := .code yX0_regretOf cX0_regretOf 2 (some .int) :: ((wsX0_regretOf_r1 ++ wsX0_regretOf_r2) ++ wsX00 ++ (vx_atS RX0 254 "java/lang/IndexOutOfBoundsException" ["java/lang/RuntimeException", "java/lang/Exception"]).filter goodWord ++ (vx_atS RX0 114 "java/lang/IllegalStateException" ["java/lang/RuntimeException", "java/lang/Exception"]).filter goodWord)
def wsX0_worstFork_r1 : List Cond := [Cond.fieldLink RX0 44 "ExamGarden" "passedCounts" "[I", Cond.methodLink RX0 132 yX0_requireStudent, Cond.instanceMethod yX0_requireStudent, Cond.selects RX0 yX0_requireStudent yX0_requireStudent, Cond.initialized RX0, Cond.code yX0_requireStudent cX0_requireStudent 2 none, Cond.classLink RX0 250 "java/lang/IndexOutOfBoundsException", Cond.initialized "java/lang/IndexOutOfBoundsException", Cond.fieldLink RX0 127 "ExamGarden" "studentCount" "I", Cond.methodLink RX0 170 yX0_requireGraded, Cond.instanceMethod yX0_requireGraded, Cond.selects RX0 yX0_requireGraded yX0_requireGraded, Cond.code yX0_requireGraded cX0_requireGraded 2 none, Cond.classLink RX0 110 "java/lang/IllegalStateException", Cond.initialized "java/lang/IllegalStateException", Cond.fieldLink RX0 41 "ExamGarden" "standing" "[I", Cond.methodLink RX0 100 yX0_at, Cond.static yX0_at, Cond.code yX0_at cX0_at 2 (some .int), Cond.methodLink RX0 106 yX0_hasGrade, Cond.instanceMethod yX0_hasGrade, Cond.selects RX0 yX0_hasGrade yX0_hasGrade, Cond.code yX0_hasGrade cX0_hasGrade 2 (some .boolean), Cond.fieldLink RX0 25 "ExamGarden" "grades" "[I"]
def wsX0_worstFork_r2 : List Cond := [Cond.methodLink RX0 176 yX0_regretOfStep, Cond.instanceMethod yX0_regretOfStep, Cond.selects RX0 yX0_regretOfStep yX0_regretOfStep, Cond.code yX0_regretOfStep cX0_regretOfStep 5 (some .int), Cond.fieldLink RX0 34 "ExamGarden" "hindsights" "[I", Cond.methodLink RX0 269 Lib.Math.max.name, Cond.static Lib.Math.max.name, Cond.initialized "java/lang/Math", Cond.code Lib.Math.max.name Lib.Math.max.code 2 (some .int), Cond.fieldLink RX0 22 "ExamGarden" "weights" "[I", Cond.methodLink RX0 146 yX0_passedFork, Cond.instanceMethod yX0_passedFork, Cond.selects RX0 yX0_passedFork yX0_passedFork, Cond.code yX0_passedFork cX0_passedFork 3 (some .int), Cond.fieldLink RX0 47 "ExamGarden" "passedForks" "[I"]
def wsX0_worstFork : List Cond := .code yX0_worstFork cX0_worstFork 7 (some .int) :: ((wsX0_worstFork_r1 ++ wsX0_worstFork_r2) ++ wsX00 ++ (vx_atS RX0 254 "java/lang/IndexOutOfBoundsException" ["java/lang/RuntimeException", "java/lang/Exception"]).filter goodWord ++ (vx_atS RX0 114 "java/lang/IllegalStateException" ["java/lang/RuntimeException", "java/lang/Exception"]).filter goodWord)
def wsX0_allRegret_r1 : List Cond := [Cond.fieldLink RX0 127 "ExamGarden" "studentCount" "I", Cond.fieldLink RX0 41 "ExamGarden" "standing" "[I", Cond.methodLink RX0 100 yX0_at, Cond.static yX0_at, Cond.initialized RX0, Cond.code yX0_at cX0_at 2 (some .int), Cond.methodLink RX0 106 yX0_hasGrade, Cond.instanceMethod yX0_hasGrade, Cond.selects RX0 yX0_hasGrade yX0_hasGrade, Cond.code yX0_hasGrade cX0_hasGrade 2 (some .boolean), Cond.fieldLink RX0 25 "ExamGarden" "grades" "[I", Cond.methodLink RX0 173 yX0_regretOfAll, Cond.instanceMethod yX0_regretOfAll, Cond.selects RX0 yX0_regretOfAll yX0_regretOfAll, Cond.code yX0_regretOfAll cX0_regretOfAll 5 (some .int), Cond.fieldLink RX0 44 "ExamGarden" "passedCounts" "[I", Cond.methodLink RX0 176 yX0_regretOfStep, Cond.instanceMethod yX0_regretOfStep, Cond.selects RX0 yX0_regretOfStep yX0_regretOfStep, Cond.code yX0_regretOfStep cX0_regretOfStep 5 (some .int), Cond.fieldLink RX0 34 "ExamGarden" "hindsights" "[I", Cond.methodLink RX0 269 Lib.Math.max.name, Cond.static Lib.Math.max.name, Cond.initialized "java/lang/Math"]
def wsX0_allRegret_r2 : List Cond := [Cond.code Lib.Math.max.name Lib.Math.max.code 2 (some .int), Cond.fieldLink RX0 22 "ExamGarden" "weights" "[I", Cond.methodLink RX0 146 yX0_passedFork, Cond.instanceMethod yX0_passedFork, Cond.selects RX0 yX0_passedFork yX0_passedFork, Cond.code yX0_passedFork cX0_passedFork 3 (some .int), Cond.fieldLink RX0 47 "ExamGarden" "passedForks" "[I"]
def wsX0_allRegret : List Cond := .code yX0_allRegret cX0_allRegret 3 (some .int) :: ((wsX0_allRegret_r1 ++ wsX0_allRegret_r2) ++ wsX00)
def wsX0_meanGrade : List Cond := .code yX0_meanGrade cX0_meanGrade 1 (some .double) :: ([.fieldLink RX0 115 "ExamGarden" "gradedCount" "I", .fieldLink RX0 118 "ExamGarden" "gradeSum" "I"] ++ wsX00)
def wsX0_mix : List Cond := .code yX0_mix cX0_mix 3 (some .long) :: ([.constantLong RX0 246 (31)])
def wsX0_mixPlace_r1 : List Cond := [Cond.methodLink RX0 216 yX0_isExam, Cond.instanceMethod yX0_isExam, Cond.selects RX0 yX0_isExam yX0_isExam, Cond.initialized RX0, Cond.code yX0_isExam cX0_isExam 2 (some .boolean), Cond.methodLink RX0 84 yX0_requirePlace, Cond.instanceMethod yX0_requirePlace, Cond.selects RX0 yX0_requirePlace yX0_requirePlace, Cond.code yX0_requirePlace cX0_requirePlace 2 none, Cond.classLink RX0 250 "java/lang/IndexOutOfBoundsException", Cond.initialized "java/lang/IndexOutOfBoundsException", Cond.fieldLink RX0 60 "ExamGarden" "placeCount" "I", Cond.methodLink RX0 135 yX0_holdsExam, Cond.instanceMethod yX0_holdsExam, Cond.selects RX0 yX0_holdsExam yX0_holdsExam, Cond.code yX0_holdsExam cX0_holdsExam 2 (some .boolean), Cond.fieldLink RX0 64 "ExamGarden" "examBits" "J", Cond.methodLink RX0 68 yX0_bitOf, Cond.static yX0_bitOf, Cond.code yX0_bitOf cX0_bitOf 1 (some .long), Cond.methodLink RX0 185 yX0_mix, Cond.static yX0_mix, Cond.code yX0_mix cX0_mix 3 (some .long), Cond.constantLong RX0 246 (31)]
def wsX0_mixPlace_r2 : List Cond := [Cond.methodLink RX0 219 yX0_sureGrade, Cond.instanceMethod yX0_sureGrade, Cond.selects RX0 yX0_sureGrade yX0_sureGrade, Cond.code yX0_sureGrade cX0_sureGrade 2 (some .int), Cond.fieldLink RX0 28 "ExamGarden" "sureGrades" "[I", Cond.methodLink RX0 100 yX0_at, Cond.static yX0_at, Cond.code yX0_at cX0_at 2 (some .int), Cond.methodLink RX0 222 yX0_hope, Cond.instanceMethod yX0_hope, Cond.selects RX0 yX0_hope yX0_hope, Cond.code yX0_hope cX0_hope 2 (some .int), Cond.fieldLink RX0 31 "ExamGarden" "hopes" "[I", Cond.methodLink RX0 225 yX0_examsFrom, Cond.instanceMethod yX0_examsFrom, Cond.selects RX0 yX0_examsFrom yX0_examsFrom, Cond.code yX0_examsFrom cX0_examsFrom 2 (some .int), Cond.fieldLink RX0 37 "ExamGarden" "reachedBits" "[J", Cond.methodLink RX0 90 yX0_bitsAt, Cond.static yX0_bitsAt, Cond.code yX0_bitsAt cX0_bitsAt 2 (some .long), Cond.methodLink RX0 153 yJ13_bitCount_95d88, Cond.static yJ13_bitCount_95d88, Cond.initialized RJ13]
def wsX0_mixPlace_r3 : List Cond := [Cond.code yJ13_bitCount_95d88 cJ13_bitCount_95d88 2 (some .int), Cond.constantLong RJ13 314 (6148914691236517205), Cond.constantLong RJ13 316 (3689348814741910323), Cond.constantLong RJ13 318 (1085102592571150095), Cond.methodLink RX0 228 yX0_planLeadsTo, Cond.instanceMethod yX0_planLeadsTo, Cond.selects RX0 yX0_planLeadsTo yX0_planLeadsTo, Cond.code yX0_planLeadsTo cX0_planLeadsTo 4 (some .int), Cond.methodLink RX0 150 yX0_plansRight, Cond.instanceMethod yX0_plansRight, Cond.selects RX0 yX0_plansRight yX0_plansRight, Cond.code yX0_plansRight cX0_plansRight 2 (some .boolean), Cond.methodLink RX0 159 yX0_riskOfPath, Cond.instanceMethod yX0_riskOfPath, Cond.selects RX0 yX0_riskOfPath yX0_riskOfPath, Cond.code yX0_riskOfPath cX0_riskOfPath 5 (some .int), Cond.methodLink RX0 269 Lib.Math.max.name, Cond.static Lib.Math.max.name, Cond.initialized "java/lang/Math", Cond.code Lib.Math.max.name Lib.Math.max.code 2 (some .int), Cond.fieldLink RX0 22 "ExamGarden" "weights" "[I", Cond.methodLink RX0 163 yX0_pathFrom, Cond.instanceMethod yX0_pathFrom, Cond.selects RX0 yX0_pathFrom yX0_pathFrom]
def wsX0_mixPlace_r4 : List Cond := [Cond.code yX0_pathFrom cX0_pathFrom 3 (some .int), Cond.fieldLink RX0 19 "ExamGarden" "rights" "[I", Cond.fieldLink RX0 16 "ExamGarden" "lefts" "[I", Cond.methodLink RX0 231 yX0_gradeOf, Cond.instanceMethod yX0_gradeOf, Cond.selects RX0 yX0_gradeOf yX0_gradeOf, Cond.code yX0_gradeOf cX0_gradeOf 2 (some .int), Cond.fieldLink RX0 25 "ExamGarden" "grades" "[I", Cond.methodLink RX0 97 yX0_requireExam, Cond.instanceMethod yX0_requireExam, Cond.selects RX0 yX0_requireExam yX0_requireExam, Cond.code yX0_requireExam cX0_requireExam 2 none, Cond.methodLink RX0 234 yX0_leftOf, Cond.instanceMethod yX0_leftOf, Cond.selects RX0 yX0_leftOf yX0_leftOf, Cond.code yX0_leftOf cX0_leftOf 2 (some .int), Cond.methodLink RX0 124 yX0_requireFork, Cond.instanceMethod yX0_requireFork, Cond.selects RX0 yX0_requireFork yX0_requireFork, Cond.code yX0_requireFork cX0_requireFork 2 none, Cond.methodLink RX0 237 yX0_rightOf, Cond.instanceMethod yX0_rightOf, Cond.selects RX0 yX0_rightOf yX0_rightOf, Cond.code yX0_rightOf cX0_rightOf 2 (some .int)]
def wsX0_mixPlace_r5 : List Cond := [Cond.methodLink RX0 240 yX0_weightOf, Cond.instanceMethod yX0_weightOf, Cond.selects RX0 yX0_weightOf yX0_weightOf, Cond.code yX0_weightOf cX0_weightOf 2 (some .int), Cond.methodLink RX0 243 yX0_hindsight, Cond.instanceMethod yX0_hindsight, Cond.selects RX0 yX0_hindsight yX0_hindsight, Cond.code yX0_hindsight cX0_hindsight 2 (some .int), Cond.fieldLink RX0 34 "ExamGarden" "hindsights" "[I"]
def wsX0_mixPlace : List Cond := .code yX0_mixPlace cX0_mixPlace 6 (some .long) :: ((wsX0_mixPlace_r1 ++ (wsX0_mixPlace_r2 ++ (wsX0_mixPlace_r3 ++ (wsX0_mixPlace_r4 ++ wsX0_mixPlace_r5)))) ++ wsX00 ++ (vx_atS RX0 254 "java/lang/IndexOutOfBoundsException" ["java/lang/RuntimeException", "java/lang/Exception"]).filter goodWord)
def wsX0_digest_r1 : List Cond := [Cond.constantLong RX0 179 (1039), Cond.fieldLink RX0 60 "ExamGarden" "placeCount" "I", Cond.fieldLink RX0 127 "ExamGarden" "studentCount" "I", Cond.methodLink RX0 181 yX0_places, Cond.instanceMethod yX0_places, Cond.selects RX0 yX0_places yX0_places, Cond.initialized RX0, Cond.code yX0_places cX0_places 1 (some .int), Cond.methodLink RX0 185 yX0_mix, Cond.static yX0_mix, Cond.code yX0_mix cX0_mix 3 (some .long), Cond.constantLong RX0 246 (31), Cond.methodLink RX0 189 yX0_exams, Cond.instanceMethod yX0_exams, Cond.selects RX0 yX0_exams yX0_exams, Cond.code yX0_exams cX0_exams 1 (some .int), Cond.fieldLink RX0 64 "ExamGarden" "examBits" "J", Cond.methodLink RX0 153 yJ13_bitCount_95d88, Cond.static yJ13_bitCount_95d88, Cond.initialized RJ13, Cond.code yJ13_bitCount_95d88 cJ13_bitCount_95d88 2 (some .int), Cond.constantLong RJ13 314 (6148914691236517205), Cond.constantLong RJ13 316 (3689348814741910323), Cond.constantLong RJ13 318 (1085102592571150095)]
def wsX0_digest_r2 : List Cond := [Cond.methodLink RX0 192 yX0_graded, Cond.instanceMethod yX0_graded, Cond.selects RX0 yX0_graded yX0_graded, Cond.code yX0_graded cX0_graded 1 (some .int), Cond.fieldLink RX0 115 "ExamGarden" "gradedCount" "I", Cond.methodLink RX0 195 yX0_students, Cond.instanceMethod yX0_students, Cond.selects RX0 yX0_students yX0_students, Cond.code yX0_students cX0_students 1 (some .int), Cond.methodLink RX0 198 yX0_atExams, Cond.instanceMethod yX0_atExams, Cond.selects RX0 yX0_atExams yX0_atExams, Cond.code yX0_atExams cX0_atExams 3 (some .int), Cond.fieldLink RX0 41 "ExamGarden" "standing" "[I", Cond.methodLink RX0 100 yX0_at, Cond.static yX0_at, Cond.code yX0_at cX0_at 2 (some .int), Cond.methodLink RX0 135 yX0_holdsExam, Cond.instanceMethod yX0_holdsExam, Cond.selects RX0 yX0_holdsExam yX0_holdsExam, Cond.code yX0_holdsExam cX0_holdsExam 2 (some .boolean), Cond.methodLink RX0 68 yX0_bitOf, Cond.static yX0_bitOf, Cond.code yX0_bitOf cX0_bitOf 1 (some .long)]
def wsX0_digest_r3 : List Cond := [Cond.methodLink RX0 201 yX0_riskiestFork, Cond.instanceMethod yX0_riskiestFork, Cond.selects RX0 yX0_riskiestFork yX0_riskiestFork, Cond.code yX0_riskiestFork cX0_riskiestFork 4 (some .int), Cond.methodLink RX0 166 yX0_smallerRisk, Cond.instanceMethod yX0_smallerRisk, Cond.selects RX0 yX0_smallerRisk yX0_smallerRisk, Cond.code yX0_smallerRisk cX0_smallerRisk 2 (some .int), Cond.methodLink RX0 274 Lib.Math.min.name, Cond.static Lib.Math.min.name, Cond.initialized "java/lang/Math", Cond.code Lib.Math.min.name Lib.Math.min.code 2 (some .int), Cond.methodLink RX0 159 yX0_riskOfPath, Cond.instanceMethod yX0_riskOfPath, Cond.selects RX0 yX0_riskOfPath yX0_riskOfPath, Cond.code yX0_riskOfPath cX0_riskOfPath 5 (some .int), Cond.fieldLink RX0 28 "ExamGarden" "sureGrades" "[I", Cond.fieldLink RX0 31 "ExamGarden" "hopes" "[I", Cond.methodLink RX0 269 Lib.Math.max.name, Cond.static Lib.Math.max.name, Cond.code Lib.Math.max.name Lib.Math.max.code 2 (some .int), Cond.fieldLink RX0 22 "ExamGarden" "weights" "[I", Cond.methodLink RX0 163 yX0_pathFrom, Cond.instanceMethod yX0_pathFrom]
def wsX0_digest_r4 : List Cond := [Cond.selects RX0 yX0_pathFrom yX0_pathFrom, Cond.code yX0_pathFrom cX0_pathFrom 3 (some .int), Cond.fieldLink RX0 19 "ExamGarden" "rights" "[I", Cond.fieldLink RX0 16 "ExamGarden" "lefts" "[I", Cond.methodLink RX0 204 yX0_allRegret, Cond.instanceMethod yX0_allRegret, Cond.selects RX0 yX0_allRegret yX0_allRegret, Cond.code yX0_allRegret cX0_allRegret 3 (some .int), Cond.methodLink RX0 106 yX0_hasGrade, Cond.instanceMethod yX0_hasGrade, Cond.selects RX0 yX0_hasGrade yX0_hasGrade, Cond.code yX0_hasGrade cX0_hasGrade 2 (some .boolean), Cond.fieldLink RX0 25 "ExamGarden" "grades" "[I", Cond.methodLink RX0 173 yX0_regretOfAll, Cond.instanceMethod yX0_regretOfAll, Cond.selects RX0 yX0_regretOfAll yX0_regretOfAll, Cond.code yX0_regretOfAll cX0_regretOfAll 5 (some .int), Cond.fieldLink RX0 44 "ExamGarden" "passedCounts" "[I", Cond.methodLink RX0 176 yX0_regretOfStep, Cond.instanceMethod yX0_regretOfStep, Cond.selects RX0 yX0_regretOfStep yX0_regretOfStep, Cond.code yX0_regretOfStep cX0_regretOfStep 5 (some .int), Cond.fieldLink RX0 34 "ExamGarden" "hindsights" "[I", Cond.methodLink RX0 146 yX0_passedFork]
def wsX0_digest_r5 : List Cond := [Cond.instanceMethod yX0_passedFork, Cond.selects RX0 yX0_passedFork yX0_passedFork, Cond.code yX0_passedFork cX0_passedFork 3 (some .int), Cond.fieldLink RX0 47 "ExamGarden" "passedForks" "[I", Cond.methodLink RX0 207 yX0_mixPlace, Cond.instanceMethod yX0_mixPlace, Cond.selects RX0 yX0_mixPlace yX0_mixPlace, Cond.code yX0_mixPlace cX0_mixPlace 6 (some .long), Cond.methodLink RX0 216 yX0_isExam, Cond.instanceMethod yX0_isExam, Cond.selects RX0 yX0_isExam yX0_isExam, Cond.code yX0_isExam cX0_isExam 2 (some .boolean), Cond.methodLink RX0 84 yX0_requirePlace, Cond.instanceMethod yX0_requirePlace, Cond.selects RX0 yX0_requirePlace yX0_requirePlace, Cond.code yX0_requirePlace cX0_requirePlace 2 none, Cond.classLink RX0 250 "java/lang/IndexOutOfBoundsException", Cond.initialized "java/lang/IndexOutOfBoundsException", Cond.methodLink RX0 219 yX0_sureGrade, Cond.instanceMethod yX0_sureGrade, Cond.selects RX0 yX0_sureGrade yX0_sureGrade, Cond.code yX0_sureGrade cX0_sureGrade 2 (some .int), Cond.methodLink RX0 222 yX0_hope, Cond.instanceMethod yX0_hope]
def wsX0_digest_r6 : List Cond := [Cond.selects RX0 yX0_hope yX0_hope, Cond.code yX0_hope cX0_hope 2 (some .int), Cond.methodLink RX0 225 yX0_examsFrom, Cond.instanceMethod yX0_examsFrom, Cond.selects RX0 yX0_examsFrom yX0_examsFrom, Cond.code yX0_examsFrom cX0_examsFrom 2 (some .int), Cond.fieldLink RX0 37 "ExamGarden" "reachedBits" "[J", Cond.methodLink RX0 90 yX0_bitsAt, Cond.static yX0_bitsAt, Cond.code yX0_bitsAt cX0_bitsAt 2 (some .long), Cond.methodLink RX0 228 yX0_planLeadsTo, Cond.instanceMethod yX0_planLeadsTo, Cond.selects RX0 yX0_planLeadsTo yX0_planLeadsTo, Cond.code yX0_planLeadsTo cX0_planLeadsTo 4 (some .int), Cond.methodLink RX0 150 yX0_plansRight, Cond.instanceMethod yX0_plansRight, Cond.selects RX0 yX0_plansRight yX0_plansRight, Cond.code yX0_plansRight cX0_plansRight 2 (some .boolean), Cond.methodLink RX0 231 yX0_gradeOf, Cond.instanceMethod yX0_gradeOf, Cond.selects RX0 yX0_gradeOf yX0_gradeOf, Cond.code yX0_gradeOf cX0_gradeOf 2 (some .int), Cond.methodLink RX0 97 yX0_requireExam, Cond.instanceMethod yX0_requireExam]
def wsX0_digest_r7 : List Cond := [Cond.selects RX0 yX0_requireExam yX0_requireExam, Cond.code yX0_requireExam cX0_requireExam 2 none, Cond.methodLink RX0 234 yX0_leftOf, Cond.instanceMethod yX0_leftOf, Cond.selects RX0 yX0_leftOf yX0_leftOf, Cond.code yX0_leftOf cX0_leftOf 2 (some .int), Cond.methodLink RX0 124 yX0_requireFork, Cond.instanceMethod yX0_requireFork, Cond.selects RX0 yX0_requireFork yX0_requireFork, Cond.code yX0_requireFork cX0_requireFork 2 none, Cond.methodLink RX0 237 yX0_rightOf, Cond.instanceMethod yX0_rightOf, Cond.selects RX0 yX0_rightOf yX0_rightOf, Cond.code yX0_rightOf cX0_rightOf 2 (some .int), Cond.methodLink RX0 240 yX0_weightOf, Cond.instanceMethod yX0_weightOf, Cond.selects RX0 yX0_weightOf yX0_weightOf, Cond.code yX0_weightOf cX0_weightOf 2 (some .int), Cond.methodLink RX0 243 yX0_hindsight, Cond.instanceMethod yX0_hindsight, Cond.selects RX0 yX0_hindsight yX0_hindsight, Cond.code yX0_hindsight cX0_hindsight 2 (some .int), Cond.methodLink RX0 210 yX0_placeOf, Cond.instanceMethod yX0_placeOf]
def wsX0_digest_r8 : List Cond := [Cond.selects RX0 yX0_placeOf yX0_placeOf, Cond.code yX0_placeOf cX0_placeOf 2 (some .int), Cond.methodLink RX0 132 yX0_requireStudent, Cond.instanceMethod yX0_requireStudent, Cond.selects RX0 yX0_requireStudent yX0_requireStudent, Cond.code yX0_requireStudent cX0_requireStudent 2 none, Cond.methodLink RX0 213 yX0_passedBy, Cond.instanceMethod yX0_passedBy, Cond.selects RX0 yX0_passedBy yX0_passedBy, Cond.code yX0_passedBy cX0_passedBy 2 (some .int)]
def wsX0_digest : List Cond := .code yX0_digest cX0_digest 4 (some .long) :: ((wsX0_digest_r1 ++ (wsX0_digest_r2 ++ (wsX0_digest_r3 ++ (wsX0_digest_r4 ++ (wsX0_digest_r5 ++ (wsX0_digest_r6 ++ (wsX0_digest_r7 ++ wsX0_digest_r8))))))) ++ wsX00 ++ (vx_atS RX0 254 "java/lang/IndexOutOfBoundsException" ["java/lang/RuntimeException", "java/lang/Exception"]).filter goodWord)
def wsX1_init : List Cond := .code yX1_init cX1_init 1 none :: ([.methodLink RX1 1 objectInit, .instanceMethod objectInit, .code objectInit ⟨#[0xb1]⟩ 1 none, .arrayClass .boolean, .fieldLink RX1 9 "ExamGardenModel" "forks" "[Z", .arrayClass .int, .fieldLink RX1 13 "ExamGardenModel" "one" "[I", .fieldLink RX1 17 "ExamGardenModel" "other" "[I", .fieldLink RX1 20 "ExamGardenModel" "third" "[I", .arrayClass .long, .fieldLink RX1 23 "ExamGardenModel" "reach" "[J", .fieldLink RX1 27 "ExamGardenModel" "sure" "[I", .fieldLink RX1 30 "ExamGardenModel" "hopes" "[I", .fieldLink RX1 33 "ExamGardenModel" "stands" "[I", .fieldLink RX1 36 "ExamGardenModel" "passed" "[I", .fieldLink RX1 39 "ExamGardenModel" "ways" "[I"] ++ wsX10)
def wsX1_thrown : List Cond := .code yX1_thrown cX1_thrown 1 (some .int) :: ([.fieldLink RX1 42 "ExamGardenModel" "thrown" "I"] ++ wsX10)
def wsX1_no : List Cond := .code yX1_no cX1_no 2 (some .int) :: ([.fieldLink RX1 42 "ExamGardenModel" "thrown" "I"] ++ wsX10)
def wsX1_isNot : List Cond := .code yX1_isNot cX1_isNot 2 (some .boolean) :: ([.fieldLink RX1 42 "ExamGardenModel" "thrown" "I"] ++ wsX10)
def wsX1_ok : List Cond := .code yX1_ok cX1_ok 2 (some .int) :: ([.fieldLink RX1 42 "ExamGardenModel" "thrown" "I"] ++ wsX10)
def wsX1_isIn : List Cond := .code yX1_isIn cX1_isIn 3 (some .boolean) :: ([])
def wsX1_isPlace : List Cond := .code yX1_isPlace cX1_isPlace 2 (some .boolean) :: ([.fieldLink RX1 46 "ExamGardenModel" "places" "I", .methodLink RX1 49 yX1_isIn, .static yX1_isIn, .initialized RX1, .code yX1_isIn cX1_isIn 3 (some .boolean)] ++ wsX10)
def wsX1_isExamAt : List Cond := .code yX1_isExamAt cX1_isExamAt 2 (some .boolean) :: ([.fieldLink RX1 9 "ExamGardenModel" "forks" "[Z", .methodLink RX1 53 yX1_isPlace, .instanceMethod yX1_isPlace, .selects RX1 yX1_isPlace yX1_isPlace, .initialized RX1, .code yX1_isPlace cX1_isPlace 2 (some .boolean), .fieldLink RX1 46 "ExamGardenModel" "places" "I", .methodLink RX1 49 yX1_isIn, .static yX1_isIn, .code yX1_isIn cX1_isIn 3 (some .boolean)] ++ wsX10)
def wsX1_isForkAt : List Cond := .code yX1_isForkAt cX1_isForkAt 2 (some .boolean) :: ([.fieldLink RX1 9 "ExamGardenModel" "forks" "[Z", .methodLink RX1 53 yX1_isPlace, .instanceMethod yX1_isPlace, .selects RX1 yX1_isPlace yX1_isPlace, .initialized RX1, .code yX1_isPlace cX1_isPlace 2 (some .boolean), .fieldLink RX1 46 "ExamGardenModel" "places" "I", .methodLink RX1 49 yX1_isIn, .static yX1_isIn, .code yX1_isIn cX1_isIn 3 (some .boolean)] ++ wsX10)
def wsX1_isStudent : List Cond := .code yX1_isStudent cX1_isStudent 2 (some .boolean) :: ([.fieldLink RX1 57 "ExamGardenModel" "students" "I", .methodLink RX1 49 yX1_isIn, .static yX1_isIn, .initialized RX1, .code yX1_isIn cX1_isIn 3 (some .boolean)] ++ wsX10)
def wsX1_has : List Cond := .code yX1_has cX1_has 3 (some .boolean) :: ([.fieldLink RX1 23 "ExamGardenModel" "reach" "[J"] ++ wsX10)
def wsX1_table : List Cond := .code yX1_table cX1_table 3 none :: ([.fieldLink RX1 46 "ExamGardenModel" "places" "I", .fieldLink RX1 9 "ExamGardenModel" "forks" "[Z", .fieldLink RX1 20 "ExamGardenModel" "third" "[I", .fieldLink RX1 27 "ExamGardenModel" "sure" "[I", .fieldLink RX1 13 "ExamGardenModel" "one" "[I", .fieldLink RX1 17 "ExamGardenModel" "other" "[I", .methodLink RX1 60 Lib.Math.max.name, .static Lib.Math.max.name, .initialized "java/lang/Math", .code Lib.Math.max.name Lib.Math.max.code 2 (some .int), .fieldLink RX1 30 "ExamGardenModel" "hopes" "[I"] ++ wsX10)
def wsX1_riskOf : List Cond := .code yX1_riskOf cX1_riskOf 5 (some .int) :: ([.fieldLink RX1 17 "ExamGardenModel" "other" "[I", .fieldLink RX1 13 "ExamGardenModel" "one" "[I", .fieldLink RX1 30 "ExamGardenModel" "hopes" "[I", .fieldLink RX1 27 "ExamGardenModel" "sure" "[I", .methodLink RX1 60 Lib.Math.max.name, .static Lib.Math.max.name, .initialized "java/lang/Math", .code Lib.Math.max.name Lib.Math.max.code 2 (some .int), .fieldLink RX1 20 "ExamGardenModel" "third" "[I"] ++ wsX10)
def wsX1_turnsRight : List Cond := .code yX1_turnsRight cX1_turnsRight 2 (some .boolean) :: ([.methodLink RX1 66 yX1_riskOf, .instanceMethod yX1_riskOf, .selects RX1 yX1_riskOf yX1_riskOf, .initialized RX1, .code yX1_riskOf cX1_riskOf 5 (some .int), .fieldLink RX1 17 "ExamGardenModel" "other" "[I", .fieldLink RX1 13 "ExamGardenModel" "one" "[I", .fieldLink RX1 30 "ExamGardenModel" "hopes" "[I", .fieldLink RX1 27 "ExamGardenModel" "sure" "[I", .methodLink RX1 60 Lib.Math.max.name, .static Lib.Math.max.name, .initialized "java/lang/Math", .code Lib.Math.max.name Lib.Math.max.code 2 (some .int), .fieldLink RX1 20 "ExamGardenModel" "third" "[I"] ++ wsX10)
def wsX1_planned : List Cond := .code yX1_planned cX1_planned 2 (some .int) :: ([.fieldLink RX1 17 "ExamGardenModel" "other" "[I", .fieldLink RX1 13 "ExamGardenModel" "one" "[I", .methodLink RX1 70 yX1_turnsRight, .instanceMethod yX1_turnsRight, .selects RX1 yX1_turnsRight yX1_turnsRight, .initialized RX1, .code yX1_turnsRight cX1_turnsRight 2 (some .boolean), .methodLink RX1 66 yX1_riskOf, .instanceMethod yX1_riskOf, .selects RX1 yX1_riskOf yX1_riskOf, .code yX1_riskOf cX1_riskOf 5 (some .int), .fieldLink RX1 30 "ExamGardenModel" "hopes" "[I", .fieldLink RX1 27 "ExamGardenModel" "sure" "[I", .methodLink RX1 60 Lib.Math.max.name, .static Lib.Math.max.name, .initialized "java/lang/Math", .code Lib.Math.max.name Lib.Math.max.code 2 (some .int), .fieldLink RX1 20 "ExamGardenModel" "third" "[I"] ++ wsX10)
def wsX1_leads : List Cond := .code yX1_leads cX1_leads 3 (some .int) :: ([.fieldLink RX1 9 "ExamGardenModel" "forks" "[Z", .methodLink RX1 73 yX1_planned, .instanceMethod yX1_planned, .selects RX1 yX1_planned yX1_planned, .initialized RX1, .code yX1_planned cX1_planned 2 (some .int), .fieldLink RX1 17 "ExamGardenModel" "other" "[I", .fieldLink RX1 13 "ExamGardenModel" "one" "[I", .methodLink RX1 70 yX1_turnsRight, .instanceMethod yX1_turnsRight, .selects RX1 yX1_turnsRight yX1_turnsRight, .code yX1_turnsRight cX1_turnsRight 2 (some .boolean), .methodLink RX1 66 yX1_riskOf, .instanceMethod yX1_riskOf, .selects RX1 yX1_riskOf yX1_riskOf, .code yX1_riskOf cX1_riskOf 5 (some .int), .fieldLink RX1 30 "ExamGardenModel" "hopes" "[I", .fieldLink RX1 27 "ExamGardenModel" "sure" "[I", .methodLink RX1 60 Lib.Math.max.name, .static Lib.Math.max.name, .initialized "java/lang/Math", .code Lib.Math.max.name Lib.Math.max.code 2 (some .int), .fieldLink RX1 20 "ExamGardenModel" "third" "[I"] ++ wsX10)
def wsX1_examsOf : List Cond := .code yX1_examsOf cX1_examsOf 4 (some .int) :: ([.fieldLink RX1 9 "ExamGardenModel" "forks" "[Z", .methodLink RX1 77 yX1_has, .instanceMethod yX1_has, .selects RX1 yX1_has yX1_has, .initialized RX1, .code yX1_has cX1_has 3 (some .boolean), .fieldLink RX1 23 "ExamGardenModel" "reach" "[J"] ++ wsX10)
def wsX1_riskiest : List Cond := .code yX1_riskiest cX1_riskiest 5 (some .int) :: ([.fieldLink RX1 46 "ExamGardenModel" "places" "I", .fieldLink RX1 9 "ExamGardenModel" "forks" "[Z", .methodLink RX1 81 Lib.Math.min.name, .static Lib.Math.min.name, .initialized "java/lang/Math", .code Lib.Math.min.name Lib.Math.min.code 2 (some .int), .methodLink RX1 66 yX1_riskOf, .instanceMethod yX1_riskOf, .selects RX1 yX1_riskOf yX1_riskOf, .initialized RX1, .code yX1_riskOf cX1_riskOf 5 (some .int), .fieldLink RX1 17 "ExamGardenModel" "other" "[I", .fieldLink RX1 13 "ExamGardenModel" "one" "[I", .fieldLink RX1 30 "ExamGardenModel" "hopes" "[I", .fieldLink RX1 27 "ExamGardenModel" "sure" "[I", .methodLink RX1 60 Lib.Math.max.name, .static Lib.Math.max.name, .code Lib.Math.max.name Lib.Math.max.code 2 (some .int), .fieldLink RX1 20 "ExamGardenModel" "third" "[I"] ++ wsX10)
def wsX1_behind : List Cond := .code yX1_behind cX1_behind 4 (some .int) :: ([.fieldLink RX1 9 "ExamGardenModel" "forks" "[Z", .fieldLink RX1 20 "ExamGardenModel" "third" "[I", .methodLink RX1 60 Lib.Math.max.name, .static Lib.Math.max.name, .initialized "java/lang/Math", .code Lib.Math.max.name Lib.Math.max.code 2 (some .int), .methodLink RX1 77 yX1_has, .instanceMethod yX1_has, .selects RX1 yX1_has yX1_has, .initialized RX1, .code yX1_has cX1_has 3 (some .boolean), .fieldLink RX1 23 "ExamGardenModel" "reach" "[J"] ++ wsX10)
def wsX1_isKnown : List Cond := .code yX1_isKnown cX1_isKnown 2 (some .boolean) :: ([.fieldLink RX1 9 "ExamGardenModel" "forks" "[Z", .fieldLink RX1 33 "ExamGardenModel" "stands" "[I", .fieldLink RX1 20 "ExamGardenModel" "third" "[I"] ++ wsX10)
def wsX1_regret : List Cond := .code yX1_regret cX1_regret 4 (some .int) :: ([.fieldLink RX1 39 "ExamGardenModel" "ways" "[I", .fieldLink RX1 20 "ExamGardenModel" "third" "[I", .fieldLink RX1 33 "ExamGardenModel" "stands" "[I", .methodLink RX1 60 Lib.Math.max.name, .static Lib.Math.max.name, .initialized "java/lang/Math", .code Lib.Math.max.name Lib.Math.max.code 2 (some .int), .methodLink RX1 84 yX1_behind, .instanceMethod yX1_behind, .selects RX1 yX1_behind yX1_behind, .initialized RX1, .code yX1_behind cX1_behind 4 (some .int), .fieldLink RX1 9 "ExamGardenModel" "forks" "[Z", .methodLink RX1 77 yX1_has, .instanceMethod yX1_has, .selects RX1 yX1_has yX1_has, .code yX1_has cX1_has 3 (some .boolean), .fieldLink RX1 23 "ExamGardenModel" "reach" "[J"] ++ wsX10)
def wsX1_regrets : List Cond := .code yX1_regrets cX1_regrets 4 (some .int) :: ([.fieldLink RX1 36 "ExamGardenModel" "passed" "[I", .methodLink RX1 87 yX1_regret, .instanceMethod yX1_regret, .selects RX1 yX1_regret yX1_regret, .initialized RX1, .code yX1_regret cX1_regret 4 (some .int), .fieldLink RX1 39 "ExamGardenModel" "ways" "[I", .fieldLink RX1 20 "ExamGardenModel" "third" "[I", .fieldLink RX1 33 "ExamGardenModel" "stands" "[I", .methodLink RX1 60 Lib.Math.max.name, .static Lib.Math.max.name, .initialized "java/lang/Math", .code Lib.Math.max.name Lib.Math.max.code 2 (some .int), .methodLink RX1 84 yX1_behind, .instanceMethod yX1_behind, .selects RX1 yX1_behind yX1_behind, .code yX1_behind cX1_behind 4 (some .int), .fieldLink RX1 9 "ExamGardenModel" "forks" "[Z", .methodLink RX1 77 yX1_has, .instanceMethod yX1_has, .selects RX1 yX1_has yX1_has, .code yX1_has cX1_has 3 (some .boolean), .fieldLink RX1 23 "ExamGardenModel" "reach" "[J"] ++ wsX10)
def wsX1_allRegrets_r1 : List Cond := [Cond.fieldLink RX1 57 "ExamGardenModel" "students" "I", Cond.methodLink RX1 90 yX1_isKnown, Cond.instanceMethod yX1_isKnown, Cond.selects RX1 yX1_isKnown yX1_isKnown, Cond.initialized RX1, Cond.code yX1_isKnown cX1_isKnown 2 (some .boolean), Cond.fieldLink RX1 9 "ExamGardenModel" "forks" "[Z", Cond.fieldLink RX1 33 "ExamGardenModel" "stands" "[I", Cond.fieldLink RX1 20 "ExamGardenModel" "third" "[I", Cond.methodLink RX1 93 yX1_regrets, Cond.instanceMethod yX1_regrets, Cond.selects RX1 yX1_regrets yX1_regrets, Cond.code yX1_regrets cX1_regrets 4 (some .int), Cond.fieldLink RX1 36 "ExamGardenModel" "passed" "[I", Cond.methodLink RX1 87 yX1_regret, Cond.instanceMethod yX1_regret, Cond.selects RX1 yX1_regret yX1_regret, Cond.code yX1_regret cX1_regret 4 (some .int), Cond.fieldLink RX1 39 "ExamGardenModel" "ways" "[I", Cond.methodLink RX1 60 Lib.Math.max.name, Cond.static Lib.Math.max.name, Cond.initialized "java/lang/Math", Cond.code Lib.Math.max.name Lib.Math.max.code 2 (some .int), Cond.methodLink RX1 84 yX1_behind]
def wsX1_allRegrets_r2 : List Cond := [Cond.instanceMethod yX1_behind, Cond.selects RX1 yX1_behind yX1_behind, Cond.code yX1_behind cX1_behind 4 (some .int), Cond.methodLink RX1 77 yX1_has, Cond.instanceMethod yX1_has, Cond.selects RX1 yX1_has yX1_has, Cond.code yX1_has cX1_has 3 (some .boolean), Cond.fieldLink RX1 23 "ExamGardenModel" "reach" "[J"]
def wsX1_allRegrets : List Cond := .code yX1_allRegrets cX1_allRegrets 3 (some .int) :: ((wsX1_allRegrets_r1 ++ wsX1_allRegrets_r2) ++ wsX10)
def wsX1_addExam : List Cond := .code yX1_addExam cX1_addExam 3 (some .int) :: ([.fieldLink RX1 42 "ExamGardenModel" "thrown" "I", .fieldLink RX1 46 "ExamGardenModel" "places" "I", .fieldLink RX1 13 "ExamGardenModel" "one" "[I", .fieldLink RX1 17 "ExamGardenModel" "other" "[I", .fieldLink RX1 20 "ExamGardenModel" "third" "[I", .fieldLink RX1 23 "ExamGardenModel" "reach" "[J", .methodLink RX1 96 yX1_no, .instanceMethod yX1_no, .selects RX1 yX1_no yX1_no, .initialized RX1, .code yX1_no cX1_no 2 (some .int)] ++ wsX10)
def wsX1_addFork : List Cond := .code yX1_addFork cX1_addFork 4 (some .int) :: ([.fieldLink RX1 42 "ExamGardenModel" "thrown" "I", .fieldLink RX1 46 "ExamGardenModel" "places" "I", .fieldLink RX1 9 "ExamGardenModel" "forks" "[Z", .fieldLink RX1 13 "ExamGardenModel" "one" "[I", .fieldLink RX1 17 "ExamGardenModel" "other" "[I", .fieldLink RX1 20 "ExamGardenModel" "third" "[I", .fieldLink RX1 23 "ExamGardenModel" "reach" "[J", .methodLink RX1 53 yX1_isPlace, .instanceMethod yX1_isPlace, .selects RX1 yX1_isPlace yX1_isPlace, .initialized RX1, .code yX1_isPlace cX1_isPlace 2 (some .boolean), .methodLink RX1 49 yX1_isIn, .static yX1_isIn, .code yX1_isIn cX1_isIn 3 (some .boolean), .methodLink RX1 96 yX1_no, .instanceMethod yX1_no, .selects RX1 yX1_no yX1_no, .code yX1_no cX1_no 2 (some .int)] ++ wsX10)
def wsX1_gradedNow : List Cond := .code yX1_gradedNow cX1_gradedNow 3 (some .int) :: ([.fieldLink RX1 46 "ExamGardenModel" "places" "I", .fieldLink RX1 9 "ExamGardenModel" "forks" "[Z", .fieldLink RX1 20 "ExamGardenModel" "third" "[I"] ++ wsX10)
def wsX1_grade_r1 : List Cond := [Cond.fieldLink RX1 42 "ExamGardenModel" "thrown" "I", Cond.fieldLink RX1 13 "ExamGardenModel" "one" "[I", Cond.fieldLink RX1 17 "ExamGardenModel" "other" "[I", Cond.fieldLink RX1 20 "ExamGardenModel" "third" "[I", Cond.methodLink RX1 99 yX1_isExamAt, Cond.instanceMethod yX1_isExamAt, Cond.selects RX1 yX1_isExamAt yX1_isExamAt, Cond.initialized RX1, Cond.code yX1_isExamAt cX1_isExamAt 2 (some .boolean), Cond.fieldLink RX1 9 "ExamGardenModel" "forks" "[Z", Cond.methodLink RX1 53 yX1_isPlace, Cond.instanceMethod yX1_isPlace, Cond.selects RX1 yX1_isPlace yX1_isPlace, Cond.code yX1_isPlace cX1_isPlace 2 (some .boolean), Cond.fieldLink RX1 46 "ExamGardenModel" "places" "I", Cond.methodLink RX1 49 yX1_isIn, Cond.static yX1_isIn, Cond.code yX1_isIn cX1_isIn 3 (some .boolean), Cond.methodLink RX1 96 yX1_no, Cond.instanceMethod yX1_no, Cond.selects RX1 yX1_no yX1_no, Cond.code yX1_no cX1_no 2 (some .int), Cond.methodLink RX1 102 yX1_gradedNow, Cond.instanceMethod yX1_gradedNow]
def wsX1_grade_r2 : List Cond := [Cond.selects RX1 yX1_gradedNow yX1_gradedNow, Cond.code yX1_gradedNow cX1_gradedNow 3 (some .int)]
def wsX1_grade : List Cond := .code yX1_grade cX1_grade 3 (some .int) :: ((wsX1_grade_r1 ++ wsX1_grade_r2) ++ wsX10)
def wsX1_weigh : List Cond := .code yX1_weigh cX1_weigh 4 (some .int) :: ([.fieldLink RX1 42 "ExamGardenModel" "thrown" "I", .fieldLink RX1 20 "ExamGardenModel" "third" "[I", .methodLink RX1 106 yX1_isForkAt, .instanceMethod yX1_isForkAt, .selects RX1 yX1_isForkAt yX1_isForkAt, .initialized RX1, .code yX1_isForkAt cX1_isForkAt 2 (some .boolean), .fieldLink RX1 9 "ExamGardenModel" "forks" "[Z", .methodLink RX1 53 yX1_isPlace, .instanceMethod yX1_isPlace, .selects RX1 yX1_isPlace yX1_isPlace, .code yX1_isPlace cX1_isPlace 2 (some .boolean), .fieldLink RX1 46 "ExamGardenModel" "places" "I", .methodLink RX1 49 yX1_isIn, .static yX1_isIn, .code yX1_isIn cX1_isIn 3 (some .boolean), .methodLink RX1 96 yX1_no, .instanceMethod yX1_no, .selects RX1 yX1_no yX1_no, .code yX1_no cX1_no 2 (some .int)] ++ wsX10)
def wsX1_enroll : List Cond := .code yX1_enroll cX1_enroll 2 (some .int) :: ([.fieldLink RX1 42 "ExamGardenModel" "thrown" "I", .fieldLink RX1 57 "ExamGardenModel" "students" "I", .fieldLink RX1 33 "ExamGardenModel" "stands" "[I", .methodLink RX1 53 yX1_isPlace, .instanceMethod yX1_isPlace, .selects RX1 yX1_isPlace yX1_isPlace, .initialized RX1, .code yX1_isPlace cX1_isPlace 2 (some .boolean), .fieldLink RX1 46 "ExamGardenModel" "places" "I", .methodLink RX1 49 yX1_isIn, .static yX1_isIn, .code yX1_isIn cX1_isIn 3 (some .boolean), .methodLink RX1 96 yX1_no, .instanceMethod yX1_no, .selects RX1 yX1_no yX1_no, .code yX1_no cX1_no 2 (some .int)] ++ wsX10)
def wsX1_go : List Cond := .code yX1_go cX1_go 3 none :: ([.fieldLink RX1 39 "ExamGardenModel" "ways" "[I", .fieldLink RX1 36 "ExamGardenModel" "passed" "[I", .fieldLink RX1 33 "ExamGardenModel" "stands" "[I"] ++ wsX10)
def wsX1_turn : List Cond := .code yX1_turn cX1_turn 4 (some .int) :: ([.fieldLink RX1 42 "ExamGardenModel" "thrown" "I", .fieldLink RX1 33 "ExamGardenModel" "stands" "[I", .fieldLink RX1 9 "ExamGardenModel" "forks" "[Z", .fieldLink RX1 17 "ExamGardenModel" "other" "[I", .fieldLink RX1 13 "ExamGardenModel" "one" "[I", .methodLink RX1 109 yX1_isStudent, .instanceMethod yX1_isStudent, .selects RX1 yX1_isStudent yX1_isStudent, .initialized RX1, .code yX1_isStudent cX1_isStudent 2 (some .boolean), .fieldLink RX1 57 "ExamGardenModel" "students" "I", .methodLink RX1 49 yX1_isIn, .static yX1_isIn, .code yX1_isIn cX1_isIn 3 (some .boolean), .methodLink RX1 96 yX1_no, .instanceMethod yX1_no, .selects RX1 yX1_no yX1_no, .code yX1_no cX1_no 2 (some .int), .methodLink RX1 112 yX1_go, .instanceMethod yX1_go, .selects RX1 yX1_go yX1_go, .code yX1_go cX1_go 3 none, .fieldLink RX1 39 "ExamGardenModel" "ways" "[I", .fieldLink RX1 36 "ExamGardenModel" "passed" "[I"] ++ wsX10)
def wsX1_goBack : List Cond := .code yX1_goBack cX1_goBack 2 (some .int) :: ([.fieldLink RX1 42 "ExamGardenModel" "thrown" "I", .fieldLink RX1 36 "ExamGardenModel" "passed" "[I", .fieldLink RX1 33 "ExamGardenModel" "stands" "[I", .fieldLink RX1 39 "ExamGardenModel" "ways" "[I", .methodLink RX1 109 yX1_isStudent, .instanceMethod yX1_isStudent, .selects RX1 yX1_isStudent yX1_isStudent, .initialized RX1, .code yX1_isStudent cX1_isStudent 2 (some .boolean), .fieldLink RX1 57 "ExamGardenModel" "students" "I", .methodLink RX1 49 yX1_isIn, .static yX1_isIn, .code yX1_isIn cX1_isIn 3 (some .boolean), .methodLink RX1 96 yX1_no, .instanceMethod yX1_no, .selects RX1 yX1_no yX1_no, .code yX1_no cX1_no 2 (some .int)] ++ wsX10)
def wsX1_follow_r1 : List Cond := [Cond.fieldLink RX1 42 "ExamGardenModel" "thrown" "I", Cond.fieldLink RX1 36 "ExamGardenModel" "passed" "[I", Cond.fieldLink RX1 9 "ExamGardenModel" "forks" "[Z", Cond.fieldLink RX1 33 "ExamGardenModel" "stands" "[I", Cond.methodLink RX1 109 yX1_isStudent, Cond.instanceMethod yX1_isStudent, Cond.selects RX1 yX1_isStudent yX1_isStudent, Cond.initialized RX1, Cond.code yX1_isStudent cX1_isStudent 2 (some .boolean), Cond.fieldLink RX1 57 "ExamGardenModel" "students" "I", Cond.methodLink RX1 49 yX1_isIn, Cond.static yX1_isIn, Cond.code yX1_isIn cX1_isIn 3 (some .boolean), Cond.methodLink RX1 96 yX1_no, Cond.instanceMethod yX1_no, Cond.selects RX1 yX1_no yX1_no, Cond.code yX1_no cX1_no 2 (some .int), Cond.methodLink RX1 116 yX1_table, Cond.instanceMethod yX1_table, Cond.selects RX1 yX1_table yX1_table, Cond.code yX1_table cX1_table 3 none, Cond.fieldLink RX1 46 "ExamGardenModel" "places" "I", Cond.fieldLink RX1 20 "ExamGardenModel" "third" "[I", Cond.fieldLink RX1 27 "ExamGardenModel" "sure" "[I"]
def wsX1_follow_r2 : List Cond := [Cond.fieldLink RX1 13 "ExamGardenModel" "one" "[I", Cond.fieldLink RX1 17 "ExamGardenModel" "other" "[I", Cond.methodLink RX1 60 Lib.Math.max.name, Cond.static Lib.Math.max.name, Cond.initialized "java/lang/Math", Cond.code Lib.Math.max.name Lib.Math.max.code 2 (some .int), Cond.fieldLink RX1 30 "ExamGardenModel" "hopes" "[I", Cond.methodLink RX1 73 yX1_planned, Cond.instanceMethod yX1_planned, Cond.selects RX1 yX1_planned yX1_planned, Cond.code yX1_planned cX1_planned 2 (some .int), Cond.methodLink RX1 70 yX1_turnsRight, Cond.instanceMethod yX1_turnsRight, Cond.selects RX1 yX1_turnsRight yX1_turnsRight, Cond.code yX1_turnsRight cX1_turnsRight 2 (some .boolean), Cond.methodLink RX1 66 yX1_riskOf, Cond.instanceMethod yX1_riskOf, Cond.selects RX1 yX1_riskOf yX1_riskOf, Cond.code yX1_riskOf cX1_riskOf 5 (some .int), Cond.methodLink RX1 112 yX1_go, Cond.instanceMethod yX1_go, Cond.selects RX1 yX1_go yX1_go, Cond.code yX1_go cX1_go 3 none, Cond.fieldLink RX1 39 "ExamGardenModel" "ways" "[I"]
def wsX1_follow : List Cond := .code yX1_follow cX1_follow 3 (some .int) :: ((wsX1_follow_r1 ++ wsX1_follow_r2) ++ wsX10)
def wsX1_places : List Cond := .code yX1_places cX1_places 1 (some .int) :: ([.fieldLink RX1 46 "ExamGardenModel" "places" "I", .methodLink RX1 119 yX1_ok, .instanceMethod yX1_ok, .selects RX1 yX1_ok yX1_ok, .initialized RX1, .code yX1_ok cX1_ok 2 (some .int), .fieldLink RX1 42 "ExamGardenModel" "thrown" "I"] ++ wsX10)
def wsX1_examsNow : List Cond := .code yX1_examsNow cX1_examsNow 3 (some .int) :: ([.fieldLink RX1 46 "ExamGardenModel" "places" "I", .fieldLink RX1 9 "ExamGardenModel" "forks" "[Z"] ++ wsX10)
def wsX1_exams : List Cond := .code yX1_exams cX1_exams 1 (some .int) :: ([.methodLink RX1 122 yX1_examsNow, .instanceMethod yX1_examsNow, .selects RX1 yX1_examsNow yX1_examsNow, .initialized RX1, .code yX1_examsNow cX1_examsNow 3 (some .int), .fieldLink RX1 46 "ExamGardenModel" "places" "I", .fieldLink RX1 9 "ExamGardenModel" "forks" "[Z", .methodLink RX1 119 yX1_ok, .instanceMethod yX1_ok, .selects RX1 yX1_ok yX1_ok, .code yX1_ok cX1_ok 2 (some .int), .fieldLink RX1 42 "ExamGardenModel" "thrown" "I"] ++ wsX10)
def wsX1_graded : List Cond := .code yX1_graded cX1_graded 1 (some .int) :: ([.methodLink RX1 102 yX1_gradedNow, .instanceMethod yX1_gradedNow, .selects RX1 yX1_gradedNow yX1_gradedNow, .initialized RX1, .code yX1_gradedNow cX1_gradedNow 3 (some .int), .fieldLink RX1 46 "ExamGardenModel" "places" "I", .fieldLink RX1 9 "ExamGardenModel" "forks" "[Z", .fieldLink RX1 20 "ExamGardenModel" "third" "[I", .methodLink RX1 119 yX1_ok, .instanceMethod yX1_ok, .selects RX1 yX1_ok yX1_ok, .code yX1_ok cX1_ok 2 (some .int), .fieldLink RX1 42 "ExamGardenModel" "thrown" "I"] ++ wsX10)
def wsX1_students : List Cond := .code yX1_students cX1_students 1 (some .int) :: ([.fieldLink RX1 57 "ExamGardenModel" "students" "I", .methodLink RX1 119 yX1_ok, .instanceMethod yX1_ok, .selects RX1 yX1_ok yX1_ok, .initialized RX1, .code yX1_ok cX1_ok 2 (some .int), .fieldLink RX1 42 "ExamGardenModel" "thrown" "I"] ++ wsX10)
def wsX1_atEnds : List Cond := .code yX1_atEnds cX1_atEnds 3 (some .int) :: ([.fieldLink RX1 57 "ExamGardenModel" "students" "I", .fieldLink RX1 9 "ExamGardenModel" "forks" "[Z", .fieldLink RX1 33 "ExamGardenModel" "stands" "[I"] ++ wsX10)
def wsX1_atExams : List Cond := .code yX1_atExams cX1_atExams 1 (some .int) :: ([.methodLink RX1 125 yX1_atEnds, .instanceMethod yX1_atEnds, .selects RX1 yX1_atEnds yX1_atEnds, .initialized RX1, .code yX1_atEnds cX1_atEnds 3 (some .int), .fieldLink RX1 57 "ExamGardenModel" "students" "I", .fieldLink RX1 9 "ExamGardenModel" "forks" "[Z", .fieldLink RX1 33 "ExamGardenModel" "stands" "[I", .methodLink RX1 119 yX1_ok, .instanceMethod yX1_ok, .selects RX1 yX1_ok yX1_ok, .code yX1_ok cX1_ok 2 (some .int), .fieldLink RX1 42 "ExamGardenModel" "thrown" "I"] ++ wsX10)
def wsX1_isExam : List Cond := .code yX1_isExam cX1_isExam 2 (some .boolean) :: ([.fieldLink RX1 42 "ExamGardenModel" "thrown" "I", .fieldLink RX1 9 "ExamGardenModel" "forks" "[Z", .methodLink RX1 53 yX1_isPlace, .instanceMethod yX1_isPlace, .selects RX1 yX1_isPlace yX1_isPlace, .initialized RX1, .code yX1_isPlace cX1_isPlace 2 (some .boolean), .fieldLink RX1 46 "ExamGardenModel" "places" "I", .methodLink RX1 49 yX1_isIn, .static yX1_isIn, .code yX1_isIn cX1_isIn 3 (some .boolean), .methodLink RX1 128 yX1_isNot, .instanceMethod yX1_isNot, .selects RX1 yX1_isNot yX1_isNot, .code yX1_isNot cX1_isNot 2 (some .boolean)] ++ wsX10)
def wsX1_isGraded : List Cond := .code yX1_isGraded cX1_isGraded 2 (some .boolean) :: ([.fieldLink RX1 42 "ExamGardenModel" "thrown" "I", .fieldLink RX1 20 "ExamGardenModel" "third" "[I", .methodLink RX1 99 yX1_isExamAt, .instanceMethod yX1_isExamAt, .selects RX1 yX1_isExamAt yX1_isExamAt, .initialized RX1, .code yX1_isExamAt cX1_isExamAt 2 (some .boolean), .fieldLink RX1 9 "ExamGardenModel" "forks" "[Z", .methodLink RX1 53 yX1_isPlace, .instanceMethod yX1_isPlace, .selects RX1 yX1_isPlace yX1_isPlace, .code yX1_isPlace cX1_isPlace 2 (some .boolean), .fieldLink RX1 46 "ExamGardenModel" "places" "I", .methodLink RX1 49 yX1_isIn, .static yX1_isIn, .code yX1_isIn cX1_isIn 3 (some .boolean), .methodLink RX1 128 yX1_isNot, .instanceMethod yX1_isNot, .selects RX1 yX1_isNot yX1_isNot, .code yX1_isNot cX1_isNot 2 (some .boolean)] ++ wsX10)
def wsX1_gradeOf : List Cond := .code yX1_gradeOf cX1_gradeOf 2 (some .int) :: ([.fieldLink RX1 42 "ExamGardenModel" "thrown" "I", .fieldLink RX1 20 "ExamGardenModel" "third" "[I", .methodLink RX1 99 yX1_isExamAt, .instanceMethod yX1_isExamAt, .selects RX1 yX1_isExamAt yX1_isExamAt, .initialized RX1, .code yX1_isExamAt cX1_isExamAt 2 (some .boolean), .fieldLink RX1 9 "ExamGardenModel" "forks" "[Z", .methodLink RX1 53 yX1_isPlace, .instanceMethod yX1_isPlace, .selects RX1 yX1_isPlace yX1_isPlace, .code yX1_isPlace cX1_isPlace 2 (some .boolean), .fieldLink RX1 46 "ExamGardenModel" "places" "I", .methodLink RX1 49 yX1_isIn, .static yX1_isIn, .code yX1_isIn cX1_isIn 3 (some .boolean), .methodLink RX1 96 yX1_no, .instanceMethod yX1_no, .selects RX1 yX1_no yX1_no, .code yX1_no cX1_no 2 (some .int)] ++ wsX10)
def wsX1_ofFork : List Cond := .code yX1_ofFork cX1_ofFork 3 (some .int) :: ([.fieldLink RX1 42 "ExamGardenModel" "thrown" "I", .methodLink RX1 106 yX1_isForkAt, .instanceMethod yX1_isForkAt, .selects RX1 yX1_isForkAt yX1_isForkAt, .initialized RX1, .code yX1_isForkAt cX1_isForkAt 2 (some .boolean), .fieldLink RX1 9 "ExamGardenModel" "forks" "[Z", .methodLink RX1 53 yX1_isPlace, .instanceMethod yX1_isPlace, .selects RX1 yX1_isPlace yX1_isPlace, .code yX1_isPlace cX1_isPlace 2 (some .boolean), .fieldLink RX1 46 "ExamGardenModel" "places" "I", .methodLink RX1 49 yX1_isIn, .static yX1_isIn, .code yX1_isIn cX1_isIn 3 (some .boolean), .methodLink RX1 96 yX1_no, .instanceMethod yX1_no, .selects RX1 yX1_no yX1_no, .code yX1_no cX1_no 2 (some .int)] ++ wsX10)
def wsX1_leftOf : List Cond := .code yX1_leftOf cX1_leftOf 2 (some .int) :: ([.fieldLink RX1 13 "ExamGardenModel" "one" "[I", .methodLink RX1 131 yX1_ofFork, .instanceMethod yX1_ofFork, .selects RX1 yX1_ofFork yX1_ofFork, .initialized RX1, .code yX1_ofFork cX1_ofFork 3 (some .int), .fieldLink RX1 42 "ExamGardenModel" "thrown" "I", .methodLink RX1 106 yX1_isForkAt, .instanceMethod yX1_isForkAt, .selects RX1 yX1_isForkAt yX1_isForkAt, .code yX1_isForkAt cX1_isForkAt 2 (some .boolean), .fieldLink RX1 9 "ExamGardenModel" "forks" "[Z", .methodLink RX1 53 yX1_isPlace, .instanceMethod yX1_isPlace, .selects RX1 yX1_isPlace yX1_isPlace, .code yX1_isPlace cX1_isPlace 2 (some .boolean), .fieldLink RX1 46 "ExamGardenModel" "places" "I", .methodLink RX1 49 yX1_isIn, .static yX1_isIn, .code yX1_isIn cX1_isIn 3 (some .boolean), .methodLink RX1 96 yX1_no, .instanceMethod yX1_no, .selects RX1 yX1_no yX1_no, .code yX1_no cX1_no 2 (some .int)] ++ wsX10)
def wsX1_rightOf : List Cond := .code yX1_rightOf cX1_rightOf 2 (some .int) :: ([.fieldLink RX1 17 "ExamGardenModel" "other" "[I", .methodLink RX1 131 yX1_ofFork, .instanceMethod yX1_ofFork, .selects RX1 yX1_ofFork yX1_ofFork, .initialized RX1, .code yX1_ofFork cX1_ofFork 3 (some .int), .fieldLink RX1 42 "ExamGardenModel" "thrown" "I", .methodLink RX1 106 yX1_isForkAt, .instanceMethod yX1_isForkAt, .selects RX1 yX1_isForkAt yX1_isForkAt, .code yX1_isForkAt cX1_isForkAt 2 (some .boolean), .fieldLink RX1 9 "ExamGardenModel" "forks" "[Z", .methodLink RX1 53 yX1_isPlace, .instanceMethod yX1_isPlace, .selects RX1 yX1_isPlace yX1_isPlace, .code yX1_isPlace cX1_isPlace 2 (some .boolean), .fieldLink RX1 46 "ExamGardenModel" "places" "I", .methodLink RX1 49 yX1_isIn, .static yX1_isIn, .code yX1_isIn cX1_isIn 3 (some .boolean), .methodLink RX1 96 yX1_no, .instanceMethod yX1_no, .selects RX1 yX1_no yX1_no, .code yX1_no cX1_no 2 (some .int)] ++ wsX10)
def wsX1_weightOf : List Cond := .code yX1_weightOf cX1_weightOf 2 (some .int) :: ([.fieldLink RX1 20 "ExamGardenModel" "third" "[I", .methodLink RX1 131 yX1_ofFork, .instanceMethod yX1_ofFork, .selects RX1 yX1_ofFork yX1_ofFork, .initialized RX1, .code yX1_ofFork cX1_ofFork 3 (some .int), .fieldLink RX1 42 "ExamGardenModel" "thrown" "I", .methodLink RX1 106 yX1_isForkAt, .instanceMethod yX1_isForkAt, .selects RX1 yX1_isForkAt yX1_isForkAt, .code yX1_isForkAt cX1_isForkAt 2 (some .boolean), .fieldLink RX1 9 "ExamGardenModel" "forks" "[Z", .methodLink RX1 53 yX1_isPlace, .instanceMethod yX1_isPlace, .selects RX1 yX1_isPlace yX1_isPlace, .code yX1_isPlace cX1_isPlace 2 (some .boolean), .fieldLink RX1 46 "ExamGardenModel" "places" "I", .methodLink RX1 49 yX1_isIn, .static yX1_isIn, .code yX1_isIn cX1_isIn 3 (some .boolean), .methodLink RX1 96 yX1_no, .instanceMethod yX1_no, .selects RX1 yX1_no yX1_no, .code yX1_no cX1_no 2 (some .int)] ++ wsX10)
def wsX1_ofStudent : List Cond := .code yX1_ofStudent cX1_ofStudent 3 (some .int) :: ([.fieldLink RX1 42 "ExamGardenModel" "thrown" "I", .methodLink RX1 109 yX1_isStudent, .instanceMethod yX1_isStudent, .selects RX1 yX1_isStudent yX1_isStudent, .initialized RX1, .code yX1_isStudent cX1_isStudent 2 (some .boolean), .fieldLink RX1 57 "ExamGardenModel" "students" "I", .methodLink RX1 49 yX1_isIn, .static yX1_isIn, .code yX1_isIn cX1_isIn 3 (some .boolean), .methodLink RX1 96 yX1_no, .instanceMethod yX1_no, .selects RX1 yX1_no yX1_no, .code yX1_no cX1_no 2 (some .int)] ++ wsX10)
def wsX1_placeOf : List Cond := .code yX1_placeOf cX1_placeOf 2 (some .int) :: ([.fieldLink RX1 33 "ExamGardenModel" "stands" "[I", .methodLink RX1 135 yX1_ofStudent, .instanceMethod yX1_ofStudent, .selects RX1 yX1_ofStudent yX1_ofStudent, .initialized RX1, .code yX1_ofStudent cX1_ofStudent 3 (some .int), .fieldLink RX1 42 "ExamGardenModel" "thrown" "I", .methodLink RX1 109 yX1_isStudent, .instanceMethod yX1_isStudent, .selects RX1 yX1_isStudent yX1_isStudent, .code yX1_isStudent cX1_isStudent 2 (some .boolean), .fieldLink RX1 57 "ExamGardenModel" "students" "I", .methodLink RX1 49 yX1_isIn, .static yX1_isIn, .code yX1_isIn cX1_isIn 3 (some .boolean), .methodLink RX1 96 yX1_no, .instanceMethod yX1_no, .selects RX1 yX1_no yX1_no, .code yX1_no cX1_no 2 (some .int)] ++ wsX10)
def wsX1_passedBy : List Cond := .code yX1_passedBy cX1_passedBy 2 (some .int) :: ([.fieldLink RX1 36 "ExamGardenModel" "passed" "[I", .methodLink RX1 135 yX1_ofStudent, .instanceMethod yX1_ofStudent, .selects RX1 yX1_ofStudent yX1_ofStudent, .initialized RX1, .code yX1_ofStudent cX1_ofStudent 3 (some .int), .fieldLink RX1 42 "ExamGardenModel" "thrown" "I", .methodLink RX1 109 yX1_isStudent, .instanceMethod yX1_isStudent, .selects RX1 yX1_isStudent yX1_isStudent, .code yX1_isStudent cX1_isStudent 2 (some .boolean), .fieldLink RX1 57 "ExamGardenModel" "students" "I", .methodLink RX1 49 yX1_isIn, .static yX1_isIn, .code yX1_isIn cX1_isIn 3 (some .boolean), .methodLink RX1 96 yX1_no, .instanceMethod yX1_no, .selects RX1 yX1_no yX1_no, .code yX1_no cX1_no 2 (some .int)] ++ wsX10)
def wsX1_ofPlace_r1 : List Cond := [Cond.fieldLink RX1 42 "ExamGardenModel" "thrown" "I", Cond.methodLink RX1 116 yX1_table, Cond.instanceMethod yX1_table, Cond.selects RX1 yX1_table yX1_table, Cond.initialized RX1, Cond.code yX1_table cX1_table 3 none, Cond.fieldLink RX1 46 "ExamGardenModel" "places" "I", Cond.fieldLink RX1 9 "ExamGardenModel" "forks" "[Z", Cond.fieldLink RX1 20 "ExamGardenModel" "third" "[I", Cond.fieldLink RX1 27 "ExamGardenModel" "sure" "[I", Cond.fieldLink RX1 13 "ExamGardenModel" "one" "[I", Cond.fieldLink RX1 17 "ExamGardenModel" "other" "[I", Cond.methodLink RX1 60 Lib.Math.max.name, Cond.static Lib.Math.max.name, Cond.initialized "java/lang/Math", Cond.code Lib.Math.max.name Lib.Math.max.code 2 (some .int), Cond.fieldLink RX1 30 "ExamGardenModel" "hopes" "[I", Cond.methodLink RX1 53 yX1_isPlace, Cond.instanceMethod yX1_isPlace, Cond.selects RX1 yX1_isPlace yX1_isPlace, Cond.code yX1_isPlace cX1_isPlace 2 (some .boolean), Cond.methodLink RX1 49 yX1_isIn, Cond.static yX1_isIn, Cond.code yX1_isIn cX1_isIn 3 (some .boolean)]
def wsX1_ofPlace_r2 : List Cond := [Cond.methodLink RX1 96 yX1_no, Cond.instanceMethod yX1_no, Cond.selects RX1 yX1_no yX1_no, Cond.code yX1_no cX1_no 2 (some .int)]
def wsX1_ofPlace : List Cond := .code yX1_ofPlace cX1_ofPlace 3 (some .int) :: ((wsX1_ofPlace_r1 ++ wsX1_ofPlace_r2) ++ wsX10)
def wsX1_sureGrade_r1 : List Cond := [Cond.fieldLink RX1 27 "ExamGardenModel" "sure" "[I", Cond.methodLink RX1 138 yX1_ofPlace, Cond.instanceMethod yX1_ofPlace, Cond.selects RX1 yX1_ofPlace yX1_ofPlace, Cond.initialized RX1, Cond.code yX1_ofPlace cX1_ofPlace 3 (some .int), Cond.fieldLink RX1 42 "ExamGardenModel" "thrown" "I", Cond.methodLink RX1 116 yX1_table, Cond.instanceMethod yX1_table, Cond.selects RX1 yX1_table yX1_table, Cond.code yX1_table cX1_table 3 none, Cond.fieldLink RX1 46 "ExamGardenModel" "places" "I", Cond.fieldLink RX1 9 "ExamGardenModel" "forks" "[Z", Cond.fieldLink RX1 20 "ExamGardenModel" "third" "[I", Cond.fieldLink RX1 13 "ExamGardenModel" "one" "[I", Cond.fieldLink RX1 17 "ExamGardenModel" "other" "[I", Cond.methodLink RX1 60 Lib.Math.max.name, Cond.static Lib.Math.max.name, Cond.initialized "java/lang/Math", Cond.code Lib.Math.max.name Lib.Math.max.code 2 (some .int), Cond.fieldLink RX1 30 "ExamGardenModel" "hopes" "[I", Cond.methodLink RX1 53 yX1_isPlace, Cond.instanceMethod yX1_isPlace, Cond.selects RX1 yX1_isPlace yX1_isPlace]
def wsX1_sureGrade_r2 : List Cond := [Cond.code yX1_isPlace cX1_isPlace 2 (some .boolean), Cond.methodLink RX1 49 yX1_isIn, Cond.static yX1_isIn, Cond.code yX1_isIn cX1_isIn 3 (some .boolean), Cond.methodLink RX1 96 yX1_no, Cond.instanceMethod yX1_no, Cond.selects RX1 yX1_no yX1_no, Cond.code yX1_no cX1_no 2 (some .int)]
def wsX1_sureGrade : List Cond := .code yX1_sureGrade cX1_sureGrade 2 (some .int) :: ((wsX1_sureGrade_r1 ++ wsX1_sureGrade_r2) ++ wsX10)
def wsX1_hope_r1 : List Cond := [Cond.fieldLink RX1 30 "ExamGardenModel" "hopes" "[I", Cond.methodLink RX1 138 yX1_ofPlace, Cond.instanceMethod yX1_ofPlace, Cond.selects RX1 yX1_ofPlace yX1_ofPlace, Cond.initialized RX1, Cond.code yX1_ofPlace cX1_ofPlace 3 (some .int), Cond.fieldLink RX1 42 "ExamGardenModel" "thrown" "I", Cond.methodLink RX1 116 yX1_table, Cond.instanceMethod yX1_table, Cond.selects RX1 yX1_table yX1_table, Cond.code yX1_table cX1_table 3 none, Cond.fieldLink RX1 46 "ExamGardenModel" "places" "I", Cond.fieldLink RX1 9 "ExamGardenModel" "forks" "[Z", Cond.fieldLink RX1 20 "ExamGardenModel" "third" "[I", Cond.fieldLink RX1 27 "ExamGardenModel" "sure" "[I", Cond.fieldLink RX1 13 "ExamGardenModel" "one" "[I", Cond.fieldLink RX1 17 "ExamGardenModel" "other" "[I", Cond.methodLink RX1 60 Lib.Math.max.name, Cond.static Lib.Math.max.name, Cond.initialized "java/lang/Math", Cond.code Lib.Math.max.name Lib.Math.max.code 2 (some .int), Cond.methodLink RX1 53 yX1_isPlace, Cond.instanceMethod yX1_isPlace, Cond.selects RX1 yX1_isPlace yX1_isPlace]
def wsX1_hope_r2 : List Cond := [Cond.code yX1_isPlace cX1_isPlace 2 (some .boolean), Cond.methodLink RX1 49 yX1_isIn, Cond.static yX1_isIn, Cond.code yX1_isIn cX1_isIn 3 (some .boolean), Cond.methodLink RX1 96 yX1_no, Cond.instanceMethod yX1_no, Cond.selects RX1 yX1_no yX1_no, Cond.code yX1_no cX1_no 2 (some .int)]
def wsX1_hope : List Cond := .code yX1_hope cX1_hope 2 (some .int) :: ((wsX1_hope_r1 ++ wsX1_hope_r2) ++ wsX10)
def wsX1_reaches : List Cond := .code yX1_reaches cX1_reaches 3 (some .boolean) :: ([.fieldLink RX1 42 "ExamGardenModel" "thrown" "I", .methodLink RX1 53 yX1_isPlace, .instanceMethod yX1_isPlace, .selects RX1 yX1_isPlace yX1_isPlace, .initialized RX1, .code yX1_isPlace cX1_isPlace 2 (some .boolean), .fieldLink RX1 46 "ExamGardenModel" "places" "I", .methodLink RX1 49 yX1_isIn, .static yX1_isIn, .code yX1_isIn cX1_isIn 3 (some .boolean), .methodLink RX1 77 yX1_has, .instanceMethod yX1_has, .selects RX1 yX1_has yX1_has, .code yX1_has cX1_has 3 (some .boolean), .fieldLink RX1 23 "ExamGardenModel" "reach" "[J", .methodLink RX1 128 yX1_isNot, .instanceMethod yX1_isNot, .selects RX1 yX1_isNot yX1_isNot, .code yX1_isNot cX1_isNot 2 (some .boolean)] ++ wsX10)
def wsX1_examsFrom : List Cond := .code yX1_examsFrom cX1_examsFrom 2 (some .int) :: ([.fieldLink RX1 42 "ExamGardenModel" "thrown" "I", .methodLink RX1 53 yX1_isPlace, .instanceMethod yX1_isPlace, .selects RX1 yX1_isPlace yX1_isPlace, .initialized RX1, .code yX1_isPlace cX1_isPlace 2 (some .boolean), .fieldLink RX1 46 "ExamGardenModel" "places" "I", .methodLink RX1 49 yX1_isIn, .static yX1_isIn, .code yX1_isIn cX1_isIn 3 (some .boolean), .methodLink RX1 141 yX1_examsOf, .instanceMethod yX1_examsOf, .selects RX1 yX1_examsOf yX1_examsOf, .code yX1_examsOf cX1_examsOf 4 (some .int), .fieldLink RX1 9 "ExamGardenModel" "forks" "[Z", .methodLink RX1 77 yX1_has, .instanceMethod yX1_has, .selects RX1 yX1_has yX1_has, .code yX1_has cX1_has 3 (some .boolean), .fieldLink RX1 23 "ExamGardenModel" "reach" "[J", .methodLink RX1 96 yX1_no, .instanceMethod yX1_no, .selects RX1 yX1_no yX1_no, .code yX1_no cX1_no 2 (some .int)] ++ wsX10)
def wsX1_risk_r1 : List Cond := [Cond.fieldLink RX1 42 "ExamGardenModel" "thrown" "I", Cond.methodLink RX1 116 yX1_table, Cond.instanceMethod yX1_table, Cond.selects RX1 yX1_table yX1_table, Cond.initialized RX1, Cond.code yX1_table cX1_table 3 none, Cond.fieldLink RX1 46 "ExamGardenModel" "places" "I", Cond.fieldLink RX1 9 "ExamGardenModel" "forks" "[Z", Cond.fieldLink RX1 20 "ExamGardenModel" "third" "[I", Cond.fieldLink RX1 27 "ExamGardenModel" "sure" "[I", Cond.fieldLink RX1 13 "ExamGardenModel" "one" "[I", Cond.fieldLink RX1 17 "ExamGardenModel" "other" "[I", Cond.methodLink RX1 60 Lib.Math.max.name, Cond.static Lib.Math.max.name, Cond.initialized "java/lang/Math", Cond.code Lib.Math.max.name Lib.Math.max.code 2 (some .int), Cond.fieldLink RX1 30 "ExamGardenModel" "hopes" "[I", Cond.methodLink RX1 106 yX1_isForkAt, Cond.instanceMethod yX1_isForkAt, Cond.selects RX1 yX1_isForkAt yX1_isForkAt, Cond.code yX1_isForkAt cX1_isForkAt 2 (some .boolean), Cond.methodLink RX1 53 yX1_isPlace, Cond.instanceMethod yX1_isPlace, Cond.selects RX1 yX1_isPlace yX1_isPlace]
def wsX1_risk_r2 : List Cond := [Cond.code yX1_isPlace cX1_isPlace 2 (some .boolean), Cond.methodLink RX1 49 yX1_isIn, Cond.static yX1_isIn, Cond.code yX1_isIn cX1_isIn 3 (some .boolean), Cond.methodLink RX1 66 yX1_riskOf, Cond.instanceMethod yX1_riskOf, Cond.selects RX1 yX1_riskOf yX1_riskOf, Cond.code yX1_riskOf cX1_riskOf 5 (some .int), Cond.methodLink RX1 96 yX1_no, Cond.instanceMethod yX1_no, Cond.selects RX1 yX1_no yX1_no, Cond.code yX1_no cX1_no 2 (some .int)]
def wsX1_risk : List Cond := .code yX1_risk cX1_risk 3 (some .int) :: ((wsX1_risk_r1 ++ wsX1_risk_r2) ++ wsX10)
def wsX1_planTurnsRight_r1 : List Cond := [Cond.fieldLink RX1 42 "ExamGardenModel" "thrown" "I", Cond.methodLink RX1 116 yX1_table, Cond.instanceMethod yX1_table, Cond.selects RX1 yX1_table yX1_table, Cond.initialized RX1, Cond.code yX1_table cX1_table 3 none, Cond.fieldLink RX1 46 "ExamGardenModel" "places" "I", Cond.fieldLink RX1 9 "ExamGardenModel" "forks" "[Z", Cond.fieldLink RX1 20 "ExamGardenModel" "third" "[I", Cond.fieldLink RX1 27 "ExamGardenModel" "sure" "[I", Cond.fieldLink RX1 13 "ExamGardenModel" "one" "[I", Cond.fieldLink RX1 17 "ExamGardenModel" "other" "[I", Cond.methodLink RX1 60 Lib.Math.max.name, Cond.static Lib.Math.max.name, Cond.initialized "java/lang/Math", Cond.code Lib.Math.max.name Lib.Math.max.code 2 (some .int), Cond.fieldLink RX1 30 "ExamGardenModel" "hopes" "[I", Cond.methodLink RX1 106 yX1_isForkAt, Cond.instanceMethod yX1_isForkAt, Cond.selects RX1 yX1_isForkAt yX1_isForkAt, Cond.code yX1_isForkAt cX1_isForkAt 2 (some .boolean), Cond.methodLink RX1 53 yX1_isPlace, Cond.instanceMethod yX1_isPlace, Cond.selects RX1 yX1_isPlace yX1_isPlace]
def wsX1_planTurnsRight_r2 : List Cond := [Cond.code yX1_isPlace cX1_isPlace 2 (some .boolean), Cond.methodLink RX1 49 yX1_isIn, Cond.static yX1_isIn, Cond.code yX1_isIn cX1_isIn 3 (some .boolean), Cond.methodLink RX1 70 yX1_turnsRight, Cond.instanceMethod yX1_turnsRight, Cond.selects RX1 yX1_turnsRight yX1_turnsRight, Cond.code yX1_turnsRight cX1_turnsRight 2 (some .boolean), Cond.methodLink RX1 66 yX1_riskOf, Cond.instanceMethod yX1_riskOf, Cond.selects RX1 yX1_riskOf yX1_riskOf, Cond.code yX1_riskOf cX1_riskOf 5 (some .int), Cond.methodLink RX1 128 yX1_isNot, Cond.instanceMethod yX1_isNot, Cond.selects RX1 yX1_isNot yX1_isNot, Cond.code yX1_isNot cX1_isNot 2 (some .boolean)]
def wsX1_planTurnsRight : List Cond := .code yX1_planTurnsRight cX1_planTurnsRight 2 (some .boolean) :: ((wsX1_planTurnsRight_r1 ++ wsX1_planTurnsRight_r2) ++ wsX10)
def wsX1_planLeadsTo_r1 : List Cond := [Cond.fieldLink RX1 42 "ExamGardenModel" "thrown" "I", Cond.methodLink RX1 116 yX1_table, Cond.instanceMethod yX1_table, Cond.selects RX1 yX1_table yX1_table, Cond.initialized RX1, Cond.code yX1_table cX1_table 3 none, Cond.fieldLink RX1 46 "ExamGardenModel" "places" "I", Cond.fieldLink RX1 9 "ExamGardenModel" "forks" "[Z", Cond.fieldLink RX1 20 "ExamGardenModel" "third" "[I", Cond.fieldLink RX1 27 "ExamGardenModel" "sure" "[I", Cond.fieldLink RX1 13 "ExamGardenModel" "one" "[I", Cond.fieldLink RX1 17 "ExamGardenModel" "other" "[I", Cond.methodLink RX1 60 Lib.Math.max.name, Cond.static Lib.Math.max.name, Cond.initialized "java/lang/Math", Cond.code Lib.Math.max.name Lib.Math.max.code 2 (some .int), Cond.fieldLink RX1 30 "ExamGardenModel" "hopes" "[I", Cond.methodLink RX1 53 yX1_isPlace, Cond.instanceMethod yX1_isPlace, Cond.selects RX1 yX1_isPlace yX1_isPlace, Cond.code yX1_isPlace cX1_isPlace 2 (some .boolean), Cond.methodLink RX1 49 yX1_isIn, Cond.static yX1_isIn, Cond.code yX1_isIn cX1_isIn 3 (some .boolean)]
def wsX1_planLeadsTo_r2 : List Cond := [Cond.methodLink RX1 144 yX1_leads, Cond.instanceMethod yX1_leads, Cond.selects RX1 yX1_leads yX1_leads, Cond.code yX1_leads cX1_leads 3 (some .int), Cond.methodLink RX1 73 yX1_planned, Cond.instanceMethod yX1_planned, Cond.selects RX1 yX1_planned yX1_planned, Cond.code yX1_planned cX1_planned 2 (some .int), Cond.methodLink RX1 70 yX1_turnsRight, Cond.instanceMethod yX1_turnsRight, Cond.selects RX1 yX1_turnsRight yX1_turnsRight, Cond.code yX1_turnsRight cX1_turnsRight 2 (some .boolean), Cond.methodLink RX1 66 yX1_riskOf, Cond.instanceMethod yX1_riskOf, Cond.selects RX1 yX1_riskOf yX1_riskOf, Cond.code yX1_riskOf cX1_riskOf 5 (some .int), Cond.methodLink RX1 96 yX1_no, Cond.instanceMethod yX1_no, Cond.selects RX1 yX1_no yX1_no, Cond.code yX1_no cX1_no 2 (some .int)]
def wsX1_planLeadsTo : List Cond := .code yX1_planLeadsTo cX1_planLeadsTo 2 (some .int) :: ((wsX1_planLeadsTo_r1 ++ wsX1_planLeadsTo_r2) ++ wsX10)
def wsX1_riskiestFork_r1 : List Cond := [Cond.methodLink RX1 116 yX1_table, Cond.instanceMethod yX1_table, Cond.selects RX1 yX1_table yX1_table, Cond.initialized RX1, Cond.code yX1_table cX1_table 3 none, Cond.fieldLink RX1 46 "ExamGardenModel" "places" "I", Cond.fieldLink RX1 9 "ExamGardenModel" "forks" "[Z", Cond.fieldLink RX1 20 "ExamGardenModel" "third" "[I", Cond.fieldLink RX1 27 "ExamGardenModel" "sure" "[I", Cond.fieldLink RX1 13 "ExamGardenModel" "one" "[I", Cond.fieldLink RX1 17 "ExamGardenModel" "other" "[I", Cond.methodLink RX1 60 Lib.Math.max.name, Cond.static Lib.Math.max.name, Cond.initialized "java/lang/Math", Cond.code Lib.Math.max.name Lib.Math.max.code 2 (some .int), Cond.fieldLink RX1 30 "ExamGardenModel" "hopes" "[I", Cond.methodLink RX1 147 yX1_riskiest, Cond.instanceMethod yX1_riskiest, Cond.selects RX1 yX1_riskiest yX1_riskiest, Cond.code yX1_riskiest cX1_riskiest 5 (some .int), Cond.methodLink RX1 81 Lib.Math.min.name, Cond.static Lib.Math.min.name, Cond.code Lib.Math.min.name Lib.Math.min.code 2 (some .int), Cond.methodLink RX1 66 yX1_riskOf]
def wsX1_riskiestFork_r2 : List Cond := [Cond.instanceMethod yX1_riskOf, Cond.selects RX1 yX1_riskOf yX1_riskOf, Cond.code yX1_riskOf cX1_riskOf 5 (some .int), Cond.methodLink RX1 119 yX1_ok, Cond.instanceMethod yX1_ok, Cond.selects RX1 yX1_ok yX1_ok, Cond.code yX1_ok cX1_ok 2 (some .int), Cond.fieldLink RX1 42 "ExamGardenModel" "thrown" "I"]
def wsX1_riskiestFork : List Cond := .code yX1_riskiestFork cX1_riskiestFork 1 (some .int) :: ((wsX1_riskiestFork_r1 ++ wsX1_riskiestFork_r2) ++ wsX10)
def wsX1_hindsight_r1 : List Cond := [Cond.fieldLink RX1 42 "ExamGardenModel" "thrown" "I", Cond.methodLink RX1 106 yX1_isForkAt, Cond.instanceMethod yX1_isForkAt, Cond.selects RX1 yX1_isForkAt yX1_isForkAt, Cond.initialized RX1, Cond.code yX1_isForkAt cX1_isForkAt 2 (some .boolean), Cond.fieldLink RX1 9 "ExamGardenModel" "forks" "[Z", Cond.methodLink RX1 53 yX1_isPlace, Cond.instanceMethod yX1_isPlace, Cond.selects RX1 yX1_isPlace yX1_isPlace, Cond.code yX1_isPlace cX1_isPlace 2 (some .boolean), Cond.fieldLink RX1 46 "ExamGardenModel" "places" "I", Cond.methodLink RX1 49 yX1_isIn, Cond.static yX1_isIn, Cond.code yX1_isIn cX1_isIn 3 (some .boolean), Cond.methodLink RX1 84 yX1_behind, Cond.instanceMethod yX1_behind, Cond.selects RX1 yX1_behind yX1_behind, Cond.code yX1_behind cX1_behind 4 (some .int), Cond.fieldLink RX1 20 "ExamGardenModel" "third" "[I", Cond.methodLink RX1 60 Lib.Math.max.name, Cond.static Lib.Math.max.name, Cond.initialized "java/lang/Math", Cond.code Lib.Math.max.name Lib.Math.max.code 2 (some .int)]
def wsX1_hindsight_r2 : List Cond := [Cond.methodLink RX1 77 yX1_has, Cond.instanceMethod yX1_has, Cond.selects RX1 yX1_has yX1_has, Cond.code yX1_has cX1_has 3 (some .boolean), Cond.fieldLink RX1 23 "ExamGardenModel" "reach" "[J", Cond.methodLink RX1 96 yX1_no, Cond.instanceMethod yX1_no, Cond.selects RX1 yX1_no yX1_no, Cond.code yX1_no cX1_no 2 (some .int)]
def wsX1_hindsight : List Cond := .code yX1_hindsight cX1_hindsight 2 (some .int) :: ((wsX1_hindsight_r1 ++ wsX1_hindsight_r2) ++ wsX10)
def wsX1_regretOf_r1 : List Cond := [Cond.fieldLink RX1 42 "ExamGardenModel" "thrown" "I", Cond.methodLink RX1 109 yX1_isStudent, Cond.instanceMethod yX1_isStudent, Cond.selects RX1 yX1_isStudent yX1_isStudent, Cond.initialized RX1, Cond.code yX1_isStudent cX1_isStudent 2 (some .boolean), Cond.fieldLink RX1 57 "ExamGardenModel" "students" "I", Cond.methodLink RX1 49 yX1_isIn, Cond.static yX1_isIn, Cond.code yX1_isIn cX1_isIn 3 (some .boolean), Cond.methodLink RX1 96 yX1_no, Cond.instanceMethod yX1_no, Cond.selects RX1 yX1_no yX1_no, Cond.code yX1_no cX1_no 2 (some .int), Cond.methodLink RX1 90 yX1_isKnown, Cond.instanceMethod yX1_isKnown, Cond.selects RX1 yX1_isKnown yX1_isKnown, Cond.code yX1_isKnown cX1_isKnown 2 (some .boolean), Cond.fieldLink RX1 9 "ExamGardenModel" "forks" "[Z", Cond.fieldLink RX1 33 "ExamGardenModel" "stands" "[I", Cond.fieldLink RX1 20 "ExamGardenModel" "third" "[I", Cond.methodLink RX1 93 yX1_regrets, Cond.instanceMethod yX1_regrets, Cond.selects RX1 yX1_regrets yX1_regrets]
def wsX1_regretOf_r2 : List Cond := [Cond.code yX1_regrets cX1_regrets 4 (some .int), Cond.fieldLink RX1 36 "ExamGardenModel" "passed" "[I", Cond.methodLink RX1 87 yX1_regret, Cond.instanceMethod yX1_regret, Cond.selects RX1 yX1_regret yX1_regret, Cond.code yX1_regret cX1_regret 4 (some .int), Cond.fieldLink RX1 39 "ExamGardenModel" "ways" "[I", Cond.methodLink RX1 60 Lib.Math.max.name, Cond.static Lib.Math.max.name, Cond.initialized "java/lang/Math", Cond.code Lib.Math.max.name Lib.Math.max.code 2 (some .int), Cond.methodLink RX1 84 yX1_behind, Cond.instanceMethod yX1_behind, Cond.selects RX1 yX1_behind yX1_behind, Cond.code yX1_behind cX1_behind 4 (some .int), Cond.methodLink RX1 77 yX1_has, Cond.instanceMethod yX1_has, Cond.selects RX1 yX1_has yX1_has, Cond.code yX1_has cX1_has 3 (some .boolean), Cond.fieldLink RX1 23 "ExamGardenModel" "reach" "[J"]
def wsX1_regretOf : List Cond := .code yX1_regretOf cX1_regretOf 2 (some .int) :: ((wsX1_regretOf_r1 ++ wsX1_regretOf_r2) ++ wsX10)
def wsX1_worst : List Cond := .code yX1_worst cX1_worst 5 (some .int) :: ([.fieldLink RX1 36 "ExamGardenModel" "passed" "[I", .fieldLink RX1 39 "ExamGardenModel" "ways" "[I", .methodLink RX1 87 yX1_regret, .instanceMethod yX1_regret, .selects RX1 yX1_regret yX1_regret, .initialized RX1, .code yX1_regret cX1_regret 4 (some .int), .fieldLink RX1 20 "ExamGardenModel" "third" "[I", .fieldLink RX1 33 "ExamGardenModel" "stands" "[I", .methodLink RX1 60 Lib.Math.max.name, .static Lib.Math.max.name, .initialized "java/lang/Math", .code Lib.Math.max.name Lib.Math.max.code 2 (some .int), .methodLink RX1 84 yX1_behind, .instanceMethod yX1_behind, .selects RX1 yX1_behind yX1_behind, .code yX1_behind cX1_behind 4 (some .int), .fieldLink RX1 9 "ExamGardenModel" "forks" "[Z", .methodLink RX1 77 yX1_has, .instanceMethod yX1_has, .selects RX1 yX1_has yX1_has, .code yX1_has cX1_has 3 (some .boolean), .fieldLink RX1 23 "ExamGardenModel" "reach" "[J"] ++ wsX10)
def wsX1_worstFork_r1 : List Cond := [Cond.fieldLink RX1 42 "ExamGardenModel" "thrown" "I", Cond.methodLink RX1 109 yX1_isStudent, Cond.instanceMethod yX1_isStudent, Cond.selects RX1 yX1_isStudent yX1_isStudent, Cond.initialized RX1, Cond.code yX1_isStudent cX1_isStudent 2 (some .boolean), Cond.fieldLink RX1 57 "ExamGardenModel" "students" "I", Cond.methodLink RX1 49 yX1_isIn, Cond.static yX1_isIn, Cond.code yX1_isIn cX1_isIn 3 (some .boolean), Cond.methodLink RX1 96 yX1_no, Cond.instanceMethod yX1_no, Cond.selects RX1 yX1_no yX1_no, Cond.code yX1_no cX1_no 2 (some .int), Cond.methodLink RX1 90 yX1_isKnown, Cond.instanceMethod yX1_isKnown, Cond.selects RX1 yX1_isKnown yX1_isKnown, Cond.code yX1_isKnown cX1_isKnown 2 (some .boolean), Cond.fieldLink RX1 9 "ExamGardenModel" "forks" "[Z", Cond.fieldLink RX1 33 "ExamGardenModel" "stands" "[I", Cond.fieldLink RX1 20 "ExamGardenModel" "third" "[I", Cond.methodLink RX1 150 yX1_worst, Cond.instanceMethod yX1_worst, Cond.selects RX1 yX1_worst yX1_worst]
def wsX1_worstFork_r2 : List Cond := [Cond.code yX1_worst cX1_worst 5 (some .int), Cond.fieldLink RX1 36 "ExamGardenModel" "passed" "[I", Cond.fieldLink RX1 39 "ExamGardenModel" "ways" "[I", Cond.methodLink RX1 87 yX1_regret, Cond.instanceMethod yX1_regret, Cond.selects RX1 yX1_regret yX1_regret, Cond.code yX1_regret cX1_regret 4 (some .int), Cond.methodLink RX1 60 Lib.Math.max.name, Cond.static Lib.Math.max.name, Cond.initialized "java/lang/Math", Cond.code Lib.Math.max.name Lib.Math.max.code 2 (some .int), Cond.methodLink RX1 84 yX1_behind, Cond.instanceMethod yX1_behind, Cond.selects RX1 yX1_behind yX1_behind, Cond.code yX1_behind cX1_behind 4 (some .int), Cond.methodLink RX1 77 yX1_has, Cond.instanceMethod yX1_has, Cond.selects RX1 yX1_has yX1_has, Cond.code yX1_has cX1_has 3 (some .boolean), Cond.fieldLink RX1 23 "ExamGardenModel" "reach" "[J"]
def wsX1_worstFork : List Cond := .code yX1_worstFork cX1_worstFork 2 (some .int) :: ((wsX1_worstFork_r1 ++ wsX1_worstFork_r2) ++ wsX10)
def wsX1_allRegret_r1 : List Cond := [Cond.methodLink RX1 153 yX1_allRegrets, Cond.instanceMethod yX1_allRegrets, Cond.selects RX1 yX1_allRegrets yX1_allRegrets, Cond.initialized RX1, Cond.code yX1_allRegrets cX1_allRegrets 3 (some .int), Cond.fieldLink RX1 57 "ExamGardenModel" "students" "I", Cond.methodLink RX1 90 yX1_isKnown, Cond.instanceMethod yX1_isKnown, Cond.selects RX1 yX1_isKnown yX1_isKnown, Cond.code yX1_isKnown cX1_isKnown 2 (some .boolean), Cond.fieldLink RX1 9 "ExamGardenModel" "forks" "[Z", Cond.fieldLink RX1 33 "ExamGardenModel" "stands" "[I", Cond.fieldLink RX1 20 "ExamGardenModel" "third" "[I", Cond.methodLink RX1 93 yX1_regrets, Cond.instanceMethod yX1_regrets, Cond.selects RX1 yX1_regrets yX1_regrets, Cond.code yX1_regrets cX1_regrets 4 (some .int), Cond.fieldLink RX1 36 "ExamGardenModel" "passed" "[I", Cond.methodLink RX1 87 yX1_regret, Cond.instanceMethod yX1_regret, Cond.selects RX1 yX1_regret yX1_regret, Cond.code yX1_regret cX1_regret 4 (some .int), Cond.fieldLink RX1 39 "ExamGardenModel" "ways" "[I", Cond.methodLink RX1 60 Lib.Math.max.name]
def wsX1_allRegret_r2 : List Cond := [Cond.static Lib.Math.max.name, Cond.initialized "java/lang/Math", Cond.code Lib.Math.max.name Lib.Math.max.code 2 (some .int), Cond.methodLink RX1 84 yX1_behind, Cond.instanceMethod yX1_behind, Cond.selects RX1 yX1_behind yX1_behind, Cond.code yX1_behind cX1_behind 4 (some .int), Cond.methodLink RX1 77 yX1_has, Cond.instanceMethod yX1_has, Cond.selects RX1 yX1_has yX1_has, Cond.code yX1_has cX1_has 3 (some .boolean), Cond.fieldLink RX1 23 "ExamGardenModel" "reach" "[J", Cond.methodLink RX1 119 yX1_ok, Cond.instanceMethod yX1_ok, Cond.selects RX1 yX1_ok yX1_ok, Cond.code yX1_ok cX1_ok 2 (some .int), Cond.fieldLink RX1 42 "ExamGardenModel" "thrown" "I"]
def wsX1_allRegret : List Cond := .code yX1_allRegret cX1_allRegret 1 (some .int) :: ((wsX1_allRegret_r1 ++ wsX1_allRegret_r2) ++ wsX10)
def wsX1_meanGrade : List Cond := .code yX1_meanGrade cX1_meanGrade 3 (some .double) :: ([.fieldLink RX1 42 "ExamGardenModel" "thrown" "I", .fieldLink RX1 46 "ExamGardenModel" "places" "I", .fieldLink RX1 9 "ExamGardenModel" "forks" "[Z", .fieldLink RX1 20 "ExamGardenModel" "third" "[I", .methodLink RX1 102 yX1_gradedNow, .instanceMethod yX1_gradedNow, .selects RX1 yX1_gradedNow yX1_gradedNow, .initialized RX1, .code yX1_gradedNow cX1_gradedNow 3 (some .int)] ++ wsX10)
def wsX1_digest_r1 : List Cond := [Cond.fieldLink RX1 42 "ExamGardenModel" "thrown" "I", Cond.arrayClass .int, Cond.fieldLink RX1 46 "ExamGardenModel" "places" "I", Cond.fieldLink RX1 57 "ExamGardenModel" "students" "I", Cond.constantLong RX1 156 (1039), Cond.constantLong RX1 158 (31), Cond.fieldLink RX1 9 "ExamGardenModel" "forks" "[Z", Cond.fieldLink RX1 27 "ExamGardenModel" "sure" "[I", Cond.fieldLink RX1 30 "ExamGardenModel" "hopes" "[I", Cond.fieldLink RX1 13 "ExamGardenModel" "one" "[I", Cond.fieldLink RX1 17 "ExamGardenModel" "other" "[I", Cond.fieldLink RX1 20 "ExamGardenModel" "third" "[I", Cond.fieldLink RX1 33 "ExamGardenModel" "stands" "[I", Cond.fieldLink RX1 36 "ExamGardenModel" "passed" "[I", Cond.methodLink RX1 116 yX1_table, Cond.instanceMethod yX1_table, Cond.selects RX1 yX1_table yX1_table, Cond.initialized RX1, Cond.code yX1_table cX1_table 3 none, Cond.methodLink RX1 60 Lib.Math.max.name, Cond.static Lib.Math.max.name, Cond.initialized "java/lang/Math", Cond.code Lib.Math.max.name Lib.Math.max.code 2 (some .int), Cond.methodLink RX1 122 yX1_examsNow]
def wsX1_digest_r2 : List Cond := [Cond.instanceMethod yX1_examsNow, Cond.selects RX1 yX1_examsNow yX1_examsNow, Cond.code yX1_examsNow cX1_examsNow 3 (some .int), Cond.methodLink RX1 102 yX1_gradedNow, Cond.instanceMethod yX1_gradedNow, Cond.selects RX1 yX1_gradedNow yX1_gradedNow, Cond.code yX1_gradedNow cX1_gradedNow 3 (some .int), Cond.methodLink RX1 125 yX1_atEnds, Cond.instanceMethod yX1_atEnds, Cond.selects RX1 yX1_atEnds yX1_atEnds, Cond.code yX1_atEnds cX1_atEnds 3 (some .int), Cond.methodLink RX1 147 yX1_riskiest, Cond.instanceMethod yX1_riskiest, Cond.selects RX1 yX1_riskiest yX1_riskiest, Cond.code yX1_riskiest cX1_riskiest 5 (some .int), Cond.methodLink RX1 81 Lib.Math.min.name, Cond.static Lib.Math.min.name, Cond.code Lib.Math.min.name Lib.Math.min.code 2 (some .int), Cond.methodLink RX1 66 yX1_riskOf, Cond.instanceMethod yX1_riskOf, Cond.selects RX1 yX1_riskOf yX1_riskOf, Cond.code yX1_riskOf cX1_riskOf 5 (some .int), Cond.methodLink RX1 153 yX1_allRegrets, Cond.instanceMethod yX1_allRegrets]
def wsX1_digest_r3 : List Cond := [Cond.selects RX1 yX1_allRegrets yX1_allRegrets, Cond.code yX1_allRegrets cX1_allRegrets 3 (some .int), Cond.methodLink RX1 90 yX1_isKnown, Cond.instanceMethod yX1_isKnown, Cond.selects RX1 yX1_isKnown yX1_isKnown, Cond.code yX1_isKnown cX1_isKnown 2 (some .boolean), Cond.methodLink RX1 93 yX1_regrets, Cond.instanceMethod yX1_regrets, Cond.selects RX1 yX1_regrets yX1_regrets, Cond.code yX1_regrets cX1_regrets 4 (some .int), Cond.methodLink RX1 87 yX1_regret, Cond.instanceMethod yX1_regret, Cond.selects RX1 yX1_regret yX1_regret, Cond.code yX1_regret cX1_regret 4 (some .int), Cond.fieldLink RX1 39 "ExamGardenModel" "ways" "[I", Cond.methodLink RX1 84 yX1_behind, Cond.instanceMethod yX1_behind, Cond.selects RX1 yX1_behind yX1_behind, Cond.code yX1_behind cX1_behind 4 (some .int), Cond.methodLink RX1 77 yX1_has, Cond.instanceMethod yX1_has, Cond.selects RX1 yX1_has yX1_has, Cond.code yX1_has cX1_has 3 (some .boolean), Cond.fieldLink RX1 23 "ExamGardenModel" "reach" "[J"]
def wsX1_digest_r4 : List Cond := [Cond.methodLink RX1 141 yX1_examsOf, Cond.instanceMethod yX1_examsOf, Cond.selects RX1 yX1_examsOf yX1_examsOf, Cond.code yX1_examsOf cX1_examsOf 4 (some .int), Cond.methodLink RX1 144 yX1_leads, Cond.instanceMethod yX1_leads, Cond.selects RX1 yX1_leads yX1_leads, Cond.code yX1_leads cX1_leads 3 (some .int), Cond.methodLink RX1 73 yX1_planned, Cond.instanceMethod yX1_planned, Cond.selects RX1 yX1_planned yX1_planned, Cond.code yX1_planned cX1_planned 2 (some .int), Cond.methodLink RX1 70 yX1_turnsRight, Cond.instanceMethod yX1_turnsRight, Cond.selects RX1 yX1_turnsRight yX1_turnsRight, Cond.code yX1_turnsRight cX1_turnsRight 2 (some .boolean)]
def wsX1_digest : List Cond := .code yX1_digest cX1_digest 10 (some .long) :: ((wsX1_digest_r1 ++ (wsX1_digest_r2 ++ (wsX1_digest_r3 ++ wsX1_digest_r4))) ++ wsX10)
def wsJ9_max_7cf53 : List Cond := .code yJ9_max_7cf53 cJ9_max_7cf53 2 (some .int) :: ([])
def wsJ9_min_7cf53 : List Cond := .code yJ9_min_7cf53 cJ9_min_7cf53 2 (some .int) :: ([])
def wsL_addExam_r1 : List Cond := [Cond.classLink RL 13 "java/lang/IllegalArgumentException", Cond.classLink RL 15 "java/lang/IllegalStateException", Cond.methodLink RL 7 yX0_addExam, Cond.instanceMethod yX0_addExam, Cond.selects RX0 yX0_addExam yX0_addExam, Cond.initialized RX0, Cond.code yX0_addExam cX0_addExam 4 (some .int), Cond.classLink RX0 50 "java/lang/IllegalArgumentException", Cond.initialized "java/lang/IllegalArgumentException", Cond.fieldLink RX0 60 "ExamGarden" "placeCount" "I", Cond.fieldLink RX0 64 "ExamGarden" "examBits" "J", Cond.fieldLink RX0 9 "ExamGarden" "lowestGrades" "[I", Cond.fieldLink RX0 13 "ExamGarden" "highestGrades" "[I", Cond.fieldLink RX0 25 "ExamGarden" "grades" "[I", Cond.fieldLink RX0 37 "ExamGarden" "reachedBits" "[J", Cond.methodLink RX0 57 yX0_requireRoom, Cond.instanceMethod yX0_requireRoom, Cond.selects RX0 yX0_requireRoom yX0_requireRoom, Cond.code yX0_requireRoom cX0_requireRoom 1 none, Cond.classLink RX0 110 "java/lang/IllegalStateException", Cond.initialized "java/lang/IllegalStateException", Cond.methodLink RX0 68 yX0_bitOf, Cond.static yX0_bitOf, Cond.code yX0_bitOf cX0_bitOf 1 (some .long)]
def wsL_addExam_r2 : List Cond := [Cond.methodLink RX0 72 yX0_put, Cond.static yX0_put, Cond.code yX0_put cX0_put 3 none, Cond.methodLink RX0 76 yX0_putBits, Cond.static yX0_putBits, Cond.code yX0_putBits cX0_putBits 4 none, Cond.methodLink RX0 80 yX0_settleExam, Cond.instanceMethod yX0_settleExam, Cond.selects RX0 yX0_settleExam yX0_settleExam, Cond.code yX0_settleExam cX0_settleExam 4 none, Cond.fieldLink RX0 28 "ExamGarden" "sureGrades" "[I", Cond.fieldLink RX0 31 "ExamGarden" "hopes" "[I", Cond.fieldLink RX0 34 "ExamGarden" "hindsights" "[I", Cond.methodLink RX0 106 yX0_hasGrade, Cond.instanceMethod yX0_hasGrade, Cond.selects RX0 yX0_hasGrade yX0_hasGrade, Cond.code yX0_hasGrade cX0_hasGrade 2 (some .boolean), Cond.methodLink RX0 100 yX0_at, Cond.static yX0_at, Cond.code yX0_at cX0_at 2 (some .int)]
def wsL_addExam : List Cond := .codeWith yL_addExam cL_addExam 5 (some .int) [(0, 10, 13, 13), (0, 10, 17, 15)] :: ((wsL_addExam_r1 ++ wsL_addExam_r2) ++ wsX00 ++ (vx_atS RX0 54 "java/lang/IllegalArgumentException" ["java/lang/RuntimeException", "java/lang/Exception"]).filter goodWord ++ (vx_atS RX0 114 "java/lang/IllegalStateException" ["java/lang/RuntimeException", "java/lang/Exception"]).filter goodWord)
def wsL_addFork_r1 : List Cond := [Cond.classLink RL 21 "java/lang/IndexOutOfBoundsException", Cond.classLink RL 13 "java/lang/IllegalArgumentException", Cond.classLink RL 15 "java/lang/IllegalStateException", Cond.methodLink RL 17 yX0_addFork, Cond.instanceMethod yX0_addFork, Cond.selects RX0 yX0_addFork yX0_addFork, Cond.initialized RX0, Cond.code yX0_addFork cX0_addFork 5 (some .int), Cond.fieldLink RX0 60 "ExamGarden" "placeCount" "I", Cond.fieldLink RX0 16 "ExamGarden" "lefts" "[I", Cond.fieldLink RX0 19 "ExamGarden" "rights" "[I", Cond.fieldLink RX0 22 "ExamGarden" "weights" "[I", Cond.fieldLink RX0 25 "ExamGarden" "grades" "[I", Cond.fieldLink RX0 37 "ExamGarden" "reachedBits" "[J", Cond.methodLink RX0 84 yX0_requirePlace, Cond.instanceMethod yX0_requirePlace, Cond.selects RX0 yX0_requirePlace yX0_requirePlace, Cond.code yX0_requirePlace cX0_requirePlace 2 none, Cond.classLink RX0 250 "java/lang/IndexOutOfBoundsException", Cond.initialized "java/lang/IndexOutOfBoundsException", Cond.methodLink RX0 87 yX0_requireWeight, Cond.static yX0_requireWeight, Cond.code yX0_requireWeight cX0_requireWeight 1 none, Cond.classLink RX0 50 "java/lang/IllegalArgumentException"]
def wsL_addFork_r2 : List Cond := [Cond.initialized "java/lang/IllegalArgumentException", Cond.methodLink RX0 57 yX0_requireRoom, Cond.instanceMethod yX0_requireRoom, Cond.selects RX0 yX0_requireRoom yX0_requireRoom, Cond.code yX0_requireRoom cX0_requireRoom 1 none, Cond.classLink RX0 110 "java/lang/IllegalStateException", Cond.initialized "java/lang/IllegalStateException", Cond.methodLink RX0 72 yX0_put, Cond.static yX0_put, Cond.code yX0_put cX0_put 3 none, Cond.methodLink RX0 68 yX0_bitOf, Cond.static yX0_bitOf, Cond.code yX0_bitOf cX0_bitOf 1 (some .long), Cond.methodLink RX0 90 yX0_bitsAt, Cond.static yX0_bitsAt, Cond.code yX0_bitsAt cX0_bitsAt 2 (some .long), Cond.methodLink RX0 76 yX0_putBits, Cond.static yX0_putBits, Cond.code yX0_putBits cX0_putBits 4 none, Cond.methodLink RX0 94 yX0_settleFork, Cond.instanceMethod yX0_settleFork, Cond.selects RX0 yX0_settleFork yX0_settleFork, Cond.code yX0_settleFork cX0_settleFork 2 none, Cond.fieldLink RX0 28 "ExamGarden" "sureGrades" "[I"]
def wsL_addFork_r3 : List Cond := [Cond.fieldLink RX0 31 "ExamGarden" "hopes" "[I", Cond.fieldLink RX0 34 "ExamGarden" "hindsights" "[I", Cond.methodLink RX0 265 yX0_settleGreater, Cond.instanceMethod yX0_settleGreater, Cond.selects RX0 yX0_settleGreater yX0_settleGreater, Cond.code yX0_settleGreater cX0_settleGreater 3 none, Cond.methodLink RX0 269 Lib.Math.max.name, Cond.static Lib.Math.max.name, Cond.initialized "java/lang/Math", Cond.code Lib.Math.max.name Lib.Math.max.code 2 (some .int), Cond.methodLink RX0 100 yX0_at, Cond.static yX0_at, Cond.code yX0_at cX0_at 2 (some .int)]
def wsL_addFork : List Cond := .codeWith yL_addFork cL_addFork 6 (some .int) [(0, 12, 15, 21), (0, 12, 19, 13), (0, 12, 23, 15)] :: ((wsL_addFork_r1 ++ (wsL_addFork_r2 ++ wsL_addFork_r3)) ++ wsX00 ++ (vx_atS RX0 254 "java/lang/IndexOutOfBoundsException" ["java/lang/RuntimeException", "java/lang/Exception"]).filter goodWord ++ (vx_atS RX0 54 "java/lang/IllegalArgumentException" ["java/lang/RuntimeException", "java/lang/Exception"]).filter goodWord ++ (vx_atS RX0 114 "java/lang/IllegalStateException" ["java/lang/RuntimeException", "java/lang/Exception"]).filter goodWord)
def wsL_grade_r1 : List Cond := [Cond.classLink RL 21 "java/lang/IndexOutOfBoundsException", Cond.classLink RL 13 "java/lang/IllegalArgumentException", Cond.classLink RL 15 "java/lang/IllegalStateException", Cond.methodLink RL 23 yX0_grade, Cond.instanceMethod yX0_grade, Cond.selects RX0 yX0_grade yX0_grade, Cond.initialized RX0, Cond.code yX0_grade cX0_grade 3 (some .int), Cond.classLink RX0 50 "java/lang/IllegalArgumentException", Cond.initialized "java/lang/IllegalArgumentException", Cond.classLink RX0 110 "java/lang/IllegalStateException", Cond.initialized "java/lang/IllegalStateException", Cond.fieldLink RX0 9 "ExamGarden" "lowestGrades" "[I", Cond.fieldLink RX0 13 "ExamGarden" "highestGrades" "[I", Cond.fieldLink RX0 25 "ExamGarden" "grades" "[I", Cond.fieldLink RX0 115 "ExamGarden" "gradedCount" "I", Cond.fieldLink RX0 118 "ExamGarden" "gradeSum" "I", Cond.methodLink RX0 97 yX0_requireExam, Cond.instanceMethod yX0_requireExam, Cond.selects RX0 yX0_requireExam yX0_requireExam, Cond.code yX0_requireExam cX0_requireExam 2 none, Cond.classLink RX0 250 "java/lang/IndexOutOfBoundsException", Cond.initialized "java/lang/IndexOutOfBoundsException", Cond.methodLink RX0 84 yX0_requirePlace]
def wsL_grade_r2 : List Cond := [Cond.instanceMethod yX0_requirePlace, Cond.selects RX0 yX0_requirePlace yX0_requirePlace, Cond.code yX0_requirePlace cX0_requirePlace 2 none, Cond.fieldLink RX0 60 "ExamGarden" "placeCount" "I", Cond.methodLink RX0 135 yX0_holdsExam, Cond.instanceMethod yX0_holdsExam, Cond.selects RX0 yX0_holdsExam yX0_holdsExam, Cond.code yX0_holdsExam cX0_holdsExam 2 (some .boolean), Cond.fieldLink RX0 64 "ExamGarden" "examBits" "J", Cond.methodLink RX0 68 yX0_bitOf, Cond.static yX0_bitOf, Cond.code yX0_bitOf cX0_bitOf 1 (some .long), Cond.methodLink RX0 100 yX0_at, Cond.static yX0_at, Cond.code yX0_at cX0_at 2 (some .int), Cond.methodLink RX0 106 yX0_hasGrade, Cond.instanceMethod yX0_hasGrade, Cond.selects RX0 yX0_hasGrade yX0_hasGrade, Cond.code yX0_hasGrade cX0_hasGrade 2 (some .boolean), Cond.methodLink RX0 72 yX0_put, Cond.static yX0_put, Cond.code yX0_put cX0_put 3 none, Cond.methodLink RX0 80 yX0_settleExam, Cond.instanceMethod yX0_settleExam]
def wsL_grade_r3 : List Cond := [Cond.selects RX0 yX0_settleExam yX0_settleExam, Cond.code yX0_settleExam cX0_settleExam 4 none, Cond.fieldLink RX0 28 "ExamGarden" "sureGrades" "[I", Cond.fieldLink RX0 31 "ExamGarden" "hopes" "[I", Cond.fieldLink RX0 34 "ExamGarden" "hindsights" "[I", Cond.methodLink RX0 121 yX0_settleForksAfter, Cond.instanceMethod yX0_settleForksAfter, Cond.selects RX0 yX0_settleForksAfter yX0_settleForksAfter, Cond.code yX0_settleForksAfter cX0_settleForksAfter 3 none, Cond.methodLink RX0 94 yX0_settleFork, Cond.instanceMethod yX0_settleFork, Cond.selects RX0 yX0_settleFork yX0_settleFork, Cond.code yX0_settleFork cX0_settleFork 2 none, Cond.methodLink RX0 265 yX0_settleGreater, Cond.instanceMethod yX0_settleGreater, Cond.selects RX0 yX0_settleGreater yX0_settleGreater, Cond.code yX0_settleGreater cX0_settleGreater 3 none, Cond.fieldLink RX0 16 "ExamGarden" "lefts" "[I", Cond.fieldLink RX0 19 "ExamGarden" "rights" "[I", Cond.methodLink RX0 269 Lib.Math.max.name, Cond.static Lib.Math.max.name, Cond.initialized "java/lang/Math", Cond.code Lib.Math.max.name Lib.Math.max.code 2 (some .int)]
def wsL_grade : List Cond := .codeWith yL_grade cL_grade 5 (some .int) [(0, 10, 13, 21), (0, 10, 17, 13), (0, 10, 21, 15)] :: ((wsL_grade_r1 ++ (wsL_grade_r2 ++ wsL_grade_r3)) ++ wsX00 ++ (vx_atS RX0 54 "java/lang/IllegalArgumentException" ["java/lang/RuntimeException", "java/lang/Exception"]).filter goodWord ++ (vx_atS RX0 114 "java/lang/IllegalStateException" ["java/lang/RuntimeException", "java/lang/Exception"]).filter goodWord ++ (vx_atS RX0 254 "java/lang/IndexOutOfBoundsException" ["java/lang/RuntimeException", "java/lang/Exception"]).filter goodWord)
def wsL_weigh_r1 : List Cond := [Cond.classLink RL 21 "java/lang/IndexOutOfBoundsException", Cond.classLink RL 13 "java/lang/IllegalArgumentException", Cond.methodLink RL 26 yX0_weigh, Cond.instanceMethod yX0_weigh, Cond.selects RX0 yX0_weigh yX0_weigh, Cond.initialized RX0, Cond.code yX0_weigh cX0_weigh 4 (some .int), Cond.fieldLink RX0 22 "ExamGarden" "weights" "[I", Cond.methodLink RX0 124 yX0_requireFork, Cond.instanceMethod yX0_requireFork, Cond.selects RX0 yX0_requireFork yX0_requireFork, Cond.code yX0_requireFork cX0_requireFork 2 none, Cond.classLink RX0 250 "java/lang/IndexOutOfBoundsException", Cond.initialized "java/lang/IndexOutOfBoundsException", Cond.methodLink RX0 84 yX0_requirePlace, Cond.instanceMethod yX0_requirePlace, Cond.selects RX0 yX0_requirePlace yX0_requirePlace, Cond.code yX0_requirePlace cX0_requirePlace 2 none, Cond.fieldLink RX0 60 "ExamGarden" "placeCount" "I", Cond.methodLink RX0 135 yX0_holdsExam, Cond.instanceMethod yX0_holdsExam, Cond.selects RX0 yX0_holdsExam yX0_holdsExam, Cond.code yX0_holdsExam cX0_holdsExam 2 (some .boolean), Cond.fieldLink RX0 64 "ExamGarden" "examBits" "J"]
def wsL_weigh_r2 : List Cond := [Cond.methodLink RX0 68 yX0_bitOf, Cond.static yX0_bitOf, Cond.code yX0_bitOf cX0_bitOf 1 (some .long), Cond.methodLink RX0 87 yX0_requireWeight, Cond.static yX0_requireWeight, Cond.code yX0_requireWeight cX0_requireWeight 1 none, Cond.classLink RX0 50 "java/lang/IllegalArgumentException", Cond.initialized "java/lang/IllegalArgumentException", Cond.methodLink RX0 100 yX0_at, Cond.static yX0_at, Cond.code yX0_at cX0_at 2 (some .int), Cond.methodLink RX0 72 yX0_put, Cond.static yX0_put, Cond.code yX0_put cX0_put 3 none]
def wsL_weigh : List Cond := .codeWith yL_weigh cL_weigh 5 (some .int) [(0, 10, 13, 21), (0, 10, 17, 13)] :: ((wsL_weigh_r1 ++ wsL_weigh_r2) ++ wsX00 ++ (vx_atS RX0 254 "java/lang/IndexOutOfBoundsException" ["java/lang/RuntimeException", "java/lang/Exception"]).filter goodWord ++ (vx_atS RX0 54 "java/lang/IllegalArgumentException" ["java/lang/RuntimeException", "java/lang/Exception"]).filter goodWord)
def wsL_enroll : List Cond := .codeWith yL_enroll cL_enroll 4 (some .int) [(0, 9, 12, 21), (0, 9, 15, 15)] :: ([.classLink RL 21 "java/lang/IndexOutOfBoundsException", .classLink RL 15 "java/lang/IllegalStateException", .methodLink RL 29 yX0_enroll, .instanceMethod yX0_enroll, .selects RX0 yX0_enroll yX0_enroll, .initialized RX0, .code yX0_enroll cX0_enroll 3 (some .int), .classLink RX0 110 "java/lang/IllegalStateException", .initialized "java/lang/IllegalStateException", .fieldLink RX0 127 "ExamGarden" "studentCount" "I", .fieldLink RX0 41 "ExamGarden" "standing" "[I", .methodLink RX0 84 yX0_requirePlace, .instanceMethod yX0_requirePlace, .selects RX0 yX0_requirePlace yX0_requirePlace, .code yX0_requirePlace cX0_requirePlace 2 none, .classLink RX0 250 "java/lang/IndexOutOfBoundsException", .initialized "java/lang/IndexOutOfBoundsException", .fieldLink RX0 60 "ExamGarden" "placeCount" "I", .methodLink RX0 72 yX0_put, .static yX0_put, .code yX0_put cX0_put 3 none] ++ wsX00 ++ (vx_atS RX0 114 "java/lang/IllegalStateException" ["java/lang/RuntimeException", "java/lang/Exception"]).filter goodWord ++ (vx_atS RX0 254 "java/lang/IndexOutOfBoundsException" ["java/lang/RuntimeException", "java/lang/Exception"]).filter goodWord)
def wsL_turn_r1 : List Cond := [Cond.classLink RL 21 "java/lang/IndexOutOfBoundsException", Cond.classLink RL 15 "java/lang/IllegalStateException", Cond.methodLink RL 33 yX0_turn, Cond.instanceMethod yX0_turn, Cond.selects RX0 yX0_turn yX0_turn, Cond.initialized RX0, Cond.code yX0_turn cX0_turn 3 (some .int), Cond.classLink RX0 110 "java/lang/IllegalStateException", Cond.initialized "java/lang/IllegalStateException", Cond.fieldLink RX0 41 "ExamGarden" "standing" "[I", Cond.methodLink RX0 132 yX0_requireStudent, Cond.instanceMethod yX0_requireStudent, Cond.selects RX0 yX0_requireStudent yX0_requireStudent, Cond.code yX0_requireStudent cX0_requireStudent 2 none, Cond.classLink RX0 250 "java/lang/IndexOutOfBoundsException", Cond.initialized "java/lang/IndexOutOfBoundsException", Cond.fieldLink RX0 127 "ExamGarden" "studentCount" "I", Cond.methodLink RX0 100 yX0_at, Cond.static yX0_at, Cond.code yX0_at cX0_at 2 (some .int), Cond.methodLink RX0 135 yX0_holdsExam, Cond.instanceMethod yX0_holdsExam, Cond.selects RX0 yX0_holdsExam yX0_holdsExam, Cond.code yX0_holdsExam cX0_holdsExam 2 (some .boolean)]
def wsL_turn_r2 : List Cond := [Cond.fieldLink RX0 64 "ExamGarden" "examBits" "J", Cond.methodLink RX0 68 yX0_bitOf, Cond.static yX0_bitOf, Cond.code yX0_bitOf cX0_bitOf 1 (some .long), Cond.methodLink RX0 140 yX0_walk, Cond.instanceMethod yX0_walk, Cond.selects RX0 yX0_walk yX0_walk, Cond.code yX0_walk cX0_walk 5 none, Cond.fieldLink RX0 44 "ExamGarden" "passedCounts" "[I", Cond.fieldLink RX0 47 "ExamGarden" "passedForks" "[I", Cond.methodLink RX0 72 yX0_put, Cond.static yX0_put, Cond.code yX0_put cX0_put 3 none, Cond.methodLink RX0 163 yX0_pathFrom, Cond.instanceMethod yX0_pathFrom, Cond.selects RX0 yX0_pathFrom yX0_pathFrom, Cond.code yX0_pathFrom cX0_pathFrom 3 (some .int), Cond.fieldLink RX0 19 "ExamGarden" "rights" "[I", Cond.fieldLink RX0 16 "ExamGarden" "lefts" "[I"]
def wsL_turn : List Cond := .codeWith yL_turn cL_turn 5 (some .int) [(0, 10, 13, 21), (0, 10, 17, 15)] :: ((wsL_turn_r1 ++ wsL_turn_r2) ++ wsX00 ++ (vx_atS RX0 114 "java/lang/IllegalStateException" ["java/lang/RuntimeException", "java/lang/Exception"]).filter goodWord ++ (vx_atS RX0 254 "java/lang/IndexOutOfBoundsException" ["java/lang/RuntimeException", "java/lang/Exception"]).filter goodWord)
def wsL_goBack_r1 : List Cond := [Cond.classLink RL 21 "java/lang/IndexOutOfBoundsException", Cond.classLink RL 15 "java/lang/IllegalStateException", Cond.methodLink RL 37 yX0_goBack, Cond.instanceMethod yX0_goBack, Cond.selects RX0 yX0_goBack yX0_goBack, Cond.initialized RX0, Cond.code yX0_goBack cX0_goBack 4 (some .int), Cond.classLink RX0 110 "java/lang/IllegalStateException", Cond.initialized "java/lang/IllegalStateException", Cond.fieldLink RX0 44 "ExamGarden" "passedCounts" "[I", Cond.fieldLink RX0 41 "ExamGarden" "standing" "[I", Cond.methodLink RX0 132 yX0_requireStudent, Cond.instanceMethod yX0_requireStudent, Cond.selects RX0 yX0_requireStudent yX0_requireStudent, Cond.code yX0_requireStudent cX0_requireStudent 2 none, Cond.classLink RX0 250 "java/lang/IndexOutOfBoundsException", Cond.initialized "java/lang/IndexOutOfBoundsException", Cond.fieldLink RX0 127 "ExamGarden" "studentCount" "I", Cond.methodLink RX0 100 yX0_at, Cond.static yX0_at, Cond.code yX0_at cX0_at 2 (some .int), Cond.methodLink RX0 146 yX0_passedFork, Cond.instanceMethod yX0_passedFork, Cond.selects RX0 yX0_passedFork yX0_passedFork]
def wsL_goBack_r2 : List Cond := [Cond.code yX0_passedFork cX0_passedFork 3 (some .int), Cond.fieldLink RX0 47 "ExamGarden" "passedForks" "[I", Cond.methodLink RX0 72 yX0_put, Cond.static yX0_put, Cond.code yX0_put cX0_put 3 none]
def wsL_goBack : List Cond := .codeWith yL_goBack cL_goBack 4 (some .int) [(0, 9, 12, 21), (0, 9, 15, 15)] :: ((wsL_goBack_r1 ++ wsL_goBack_r2) ++ wsX00 ++ (vx_atS RX0 114 "java/lang/IllegalStateException" ["java/lang/RuntimeException", "java/lang/Exception"]).filter goodWord ++ (vx_atS RX0 254 "java/lang/IndexOutOfBoundsException" ["java/lang/RuntimeException", "java/lang/Exception"]).filter goodWord)
def wsL_follow_r1 : List Cond := [Cond.classLink RL 21 "java/lang/IndexOutOfBoundsException", Cond.methodLink RL 40 yX0_follow, Cond.instanceMethod yX0_follow, Cond.selects RX0 yX0_follow yX0_follow, Cond.initialized RX0, Cond.code yX0_follow cX0_follow 3 (some .int), Cond.fieldLink RX0 41 "ExamGarden" "standing" "[I", Cond.methodLink RX0 132 yX0_requireStudent, Cond.instanceMethod yX0_requireStudent, Cond.selects RX0 yX0_requireStudent yX0_requireStudent, Cond.code yX0_requireStudent cX0_requireStudent 2 none, Cond.classLink RX0 250 "java/lang/IndexOutOfBoundsException", Cond.initialized "java/lang/IndexOutOfBoundsException", Cond.fieldLink RX0 127 "ExamGarden" "studentCount" "I", Cond.methodLink RX0 100 yX0_at, Cond.static yX0_at, Cond.code yX0_at cX0_at 2 (some .int), Cond.methodLink RX0 135 yX0_holdsExam, Cond.instanceMethod yX0_holdsExam, Cond.selects RX0 yX0_holdsExam yX0_holdsExam, Cond.code yX0_holdsExam cX0_holdsExam 2 (some .boolean), Cond.fieldLink RX0 64 "ExamGarden" "examBits" "J", Cond.methodLink RX0 68 yX0_bitOf, Cond.static yX0_bitOf]
def wsL_follow_r2 : List Cond := [Cond.code yX0_bitOf cX0_bitOf 1 (some .long), Cond.methodLink RX0 150 yX0_plansRight, Cond.instanceMethod yX0_plansRight, Cond.selects RX0 yX0_plansRight yX0_plansRight, Cond.code yX0_plansRight cX0_plansRight 2 (some .boolean), Cond.methodLink RX0 159 yX0_riskOfPath, Cond.instanceMethod yX0_riskOfPath, Cond.selects RX0 yX0_riskOfPath yX0_riskOfPath, Cond.code yX0_riskOfPath cX0_riskOfPath 5 (some .int), Cond.fieldLink RX0 28 "ExamGarden" "sureGrades" "[I", Cond.fieldLink RX0 31 "ExamGarden" "hopes" "[I", Cond.methodLink RX0 269 Lib.Math.max.name, Cond.static Lib.Math.max.name, Cond.initialized "java/lang/Math", Cond.code Lib.Math.max.name Lib.Math.max.code 2 (some .int), Cond.fieldLink RX0 22 "ExamGarden" "weights" "[I", Cond.methodLink RX0 163 yX0_pathFrom, Cond.instanceMethod yX0_pathFrom, Cond.selects RX0 yX0_pathFrom yX0_pathFrom, Cond.code yX0_pathFrom cX0_pathFrom 3 (some .int), Cond.fieldLink RX0 19 "ExamGarden" "rights" "[I", Cond.fieldLink RX0 16 "ExamGarden" "lefts" "[I", Cond.methodLink RX0 140 yX0_walk, Cond.instanceMethod yX0_walk]
def wsL_follow_r3 : List Cond := [Cond.selects RX0 yX0_walk yX0_walk, Cond.code yX0_walk cX0_walk 5 none, Cond.fieldLink RX0 44 "ExamGarden" "passedCounts" "[I", Cond.fieldLink RX0 47 "ExamGarden" "passedForks" "[I", Cond.methodLink RX0 72 yX0_put, Cond.static yX0_put, Cond.code yX0_put cX0_put 3 none]
def wsL_follow : List Cond := .codeWith yL_follow cL_follow 4 (some .int) [(0, 9, 12, 21)] :: ((wsL_follow_r1 ++ (wsL_follow_r2 ++ wsL_follow_r3)) ++ wsX00 ++ (vx_atS RX0 254 "java/lang/IndexOutOfBoundsException" ["java/lang/RuntimeException", "java/lang/Exception"]).filter goodWord)
def wsL_isExam : List Cond := .codeWith yL_isExam cL_isExam 4 (some .int) [(0, 16, 19, 21)] :: ([.classLink RL 21 "java/lang/IndexOutOfBoundsException", .methodLink RL 43 yX0_isExam, .instanceMethod yX0_isExam, .selects RX0 yX0_isExam yX0_isExam, .initialized RX0, .code yX0_isExam cX0_isExam 2 (some .boolean), .methodLink RX0 84 yX0_requirePlace, .instanceMethod yX0_requirePlace, .selects RX0 yX0_requirePlace yX0_requirePlace, .code yX0_requirePlace cX0_requirePlace 2 none, .classLink RX0 250 "java/lang/IndexOutOfBoundsException", .initialized "java/lang/IndexOutOfBoundsException", .fieldLink RX0 60 "ExamGarden" "placeCount" "I", .methodLink RX0 135 yX0_holdsExam, .instanceMethod yX0_holdsExam, .selects RX0 yX0_holdsExam yX0_holdsExam, .code yX0_holdsExam cX0_holdsExam 2 (some .boolean), .fieldLink RX0 64 "ExamGarden" "examBits" "J", .methodLink RX0 68 yX0_bitOf, .static yX0_bitOf, .code yX0_bitOf cX0_bitOf 1 (some .long)] ++ wsX00 ++ (vx_atS RX0 254 "java/lang/IndexOutOfBoundsException" ["java/lang/RuntimeException", "java/lang/Exception"]).filter goodWord)
def wsL_isGraded_r1 : List Cond := [Cond.classLink RL 21 "java/lang/IndexOutOfBoundsException", Cond.methodLink RL 47 yX0_isGraded, Cond.instanceMethod yX0_isGraded, Cond.selects RX0 yX0_isGraded yX0_isGraded, Cond.initialized RX0, Cond.code yX0_isGraded cX0_isGraded 2 (some .boolean), Cond.methodLink RX0 97 yX0_requireExam, Cond.instanceMethod yX0_requireExam, Cond.selects RX0 yX0_requireExam yX0_requireExam, Cond.code yX0_requireExam cX0_requireExam 2 none, Cond.classLink RX0 250 "java/lang/IndexOutOfBoundsException", Cond.initialized "java/lang/IndexOutOfBoundsException", Cond.methodLink RX0 84 yX0_requirePlace, Cond.instanceMethod yX0_requirePlace, Cond.selects RX0 yX0_requirePlace yX0_requirePlace, Cond.code yX0_requirePlace cX0_requirePlace 2 none, Cond.fieldLink RX0 60 "ExamGarden" "placeCount" "I", Cond.methodLink RX0 135 yX0_holdsExam, Cond.instanceMethod yX0_holdsExam, Cond.selects RX0 yX0_holdsExam yX0_holdsExam, Cond.code yX0_holdsExam cX0_holdsExam 2 (some .boolean), Cond.fieldLink RX0 64 "ExamGarden" "examBits" "J", Cond.methodLink RX0 68 yX0_bitOf, Cond.static yX0_bitOf]
def wsL_isGraded_r2 : List Cond := [Cond.code yX0_bitOf cX0_bitOf 1 (some .long), Cond.methodLink RX0 106 yX0_hasGrade, Cond.instanceMethod yX0_hasGrade, Cond.selects RX0 yX0_hasGrade yX0_hasGrade, Cond.code yX0_hasGrade cX0_hasGrade 2 (some .boolean), Cond.fieldLink RX0 25 "ExamGarden" "grades" "[I", Cond.methodLink RX0 100 yX0_at, Cond.static yX0_at, Cond.code yX0_at cX0_at 2 (some .int)]
def wsL_isGraded : List Cond := .codeWith yL_isGraded cL_isGraded 4 (some .int) [(0, 16, 19, 21)] :: ((wsL_isGraded_r1 ++ wsL_isGraded_r2) ++ wsX00 ++ (vx_atS RX0 254 "java/lang/IndexOutOfBoundsException" ["java/lang/RuntimeException", "java/lang/Exception"]).filter goodWord)
def wsL_gradeOf_r1 : List Cond := [Cond.classLink RL 21 "java/lang/IndexOutOfBoundsException", Cond.methodLink RL 50 yX0_gradeOf, Cond.instanceMethod yX0_gradeOf, Cond.selects RX0 yX0_gradeOf yX0_gradeOf, Cond.initialized RX0, Cond.code yX0_gradeOf cX0_gradeOf 2 (some .int), Cond.fieldLink RX0 25 "ExamGarden" "grades" "[I", Cond.methodLink RX0 97 yX0_requireExam, Cond.instanceMethod yX0_requireExam, Cond.selects RX0 yX0_requireExam yX0_requireExam, Cond.code yX0_requireExam cX0_requireExam 2 none, Cond.classLink RX0 250 "java/lang/IndexOutOfBoundsException", Cond.initialized "java/lang/IndexOutOfBoundsException", Cond.methodLink RX0 84 yX0_requirePlace, Cond.instanceMethod yX0_requirePlace, Cond.selects RX0 yX0_requirePlace yX0_requirePlace, Cond.code yX0_requirePlace cX0_requirePlace 2 none, Cond.fieldLink RX0 60 "ExamGarden" "placeCount" "I", Cond.methodLink RX0 135 yX0_holdsExam, Cond.instanceMethod yX0_holdsExam, Cond.selects RX0 yX0_holdsExam yX0_holdsExam, Cond.code yX0_holdsExam cX0_holdsExam 2 (some .boolean), Cond.fieldLink RX0 64 "ExamGarden" "examBits" "J", Cond.methodLink RX0 68 yX0_bitOf]
def wsL_gradeOf_r2 : List Cond := [Cond.static yX0_bitOf, Cond.code yX0_bitOf cX0_bitOf 1 (some .long), Cond.methodLink RX0 100 yX0_at, Cond.static yX0_at, Cond.code yX0_at cX0_at 2 (some .int)]
def wsL_gradeOf : List Cond := .codeWith yL_gradeOf cL_gradeOf 4 (some .int) [(0, 9, 12, 21)] :: ((wsL_gradeOf_r1 ++ wsL_gradeOf_r2) ++ wsX00 ++ (vx_atS RX0 254 "java/lang/IndexOutOfBoundsException" ["java/lang/RuntimeException", "java/lang/Exception"]).filter goodWord)
def wsL_leftOf_r1 : List Cond := [Cond.classLink RL 21 "java/lang/IndexOutOfBoundsException", Cond.methodLink RL 53 yX0_leftOf, Cond.instanceMethod yX0_leftOf, Cond.selects RX0 yX0_leftOf yX0_leftOf, Cond.initialized RX0, Cond.code yX0_leftOf cX0_leftOf 2 (some .int), Cond.fieldLink RX0 16 "ExamGarden" "lefts" "[I", Cond.methodLink RX0 124 yX0_requireFork, Cond.instanceMethod yX0_requireFork, Cond.selects RX0 yX0_requireFork yX0_requireFork, Cond.code yX0_requireFork cX0_requireFork 2 none, Cond.classLink RX0 250 "java/lang/IndexOutOfBoundsException", Cond.initialized "java/lang/IndexOutOfBoundsException", Cond.methodLink RX0 84 yX0_requirePlace, Cond.instanceMethod yX0_requirePlace, Cond.selects RX0 yX0_requirePlace yX0_requirePlace, Cond.code yX0_requirePlace cX0_requirePlace 2 none, Cond.fieldLink RX0 60 "ExamGarden" "placeCount" "I", Cond.methodLink RX0 135 yX0_holdsExam, Cond.instanceMethod yX0_holdsExam, Cond.selects RX0 yX0_holdsExam yX0_holdsExam, Cond.code yX0_holdsExam cX0_holdsExam 2 (some .boolean), Cond.fieldLink RX0 64 "ExamGarden" "examBits" "J", Cond.methodLink RX0 68 yX0_bitOf]
def wsL_leftOf_r2 : List Cond := [Cond.static yX0_bitOf, Cond.code yX0_bitOf cX0_bitOf 1 (some .long), Cond.methodLink RX0 100 yX0_at, Cond.static yX0_at, Cond.code yX0_at cX0_at 2 (some .int)]
def wsL_leftOf : List Cond := .codeWith yL_leftOf cL_leftOf 4 (some .int) [(0, 9, 12, 21)] :: ((wsL_leftOf_r1 ++ wsL_leftOf_r2) ++ wsX00 ++ (vx_atS RX0 254 "java/lang/IndexOutOfBoundsException" ["java/lang/RuntimeException", "java/lang/Exception"]).filter goodWord)
def wsL_rightOf_r1 : List Cond := [Cond.classLink RL 21 "java/lang/IndexOutOfBoundsException", Cond.methodLink RL 56 yX0_rightOf, Cond.instanceMethod yX0_rightOf, Cond.selects RX0 yX0_rightOf yX0_rightOf, Cond.initialized RX0, Cond.code yX0_rightOf cX0_rightOf 2 (some .int), Cond.fieldLink RX0 19 "ExamGarden" "rights" "[I", Cond.methodLink RX0 124 yX0_requireFork, Cond.instanceMethod yX0_requireFork, Cond.selects RX0 yX0_requireFork yX0_requireFork, Cond.code yX0_requireFork cX0_requireFork 2 none, Cond.classLink RX0 250 "java/lang/IndexOutOfBoundsException", Cond.initialized "java/lang/IndexOutOfBoundsException", Cond.methodLink RX0 84 yX0_requirePlace, Cond.instanceMethod yX0_requirePlace, Cond.selects RX0 yX0_requirePlace yX0_requirePlace, Cond.code yX0_requirePlace cX0_requirePlace 2 none, Cond.fieldLink RX0 60 "ExamGarden" "placeCount" "I", Cond.methodLink RX0 135 yX0_holdsExam, Cond.instanceMethod yX0_holdsExam, Cond.selects RX0 yX0_holdsExam yX0_holdsExam, Cond.code yX0_holdsExam cX0_holdsExam 2 (some .boolean), Cond.fieldLink RX0 64 "ExamGarden" "examBits" "J", Cond.methodLink RX0 68 yX0_bitOf]
def wsL_rightOf_r2 : List Cond := [Cond.static yX0_bitOf, Cond.code yX0_bitOf cX0_bitOf 1 (some .long), Cond.methodLink RX0 100 yX0_at, Cond.static yX0_at, Cond.code yX0_at cX0_at 2 (some .int)]
def wsL_rightOf : List Cond := .codeWith yL_rightOf cL_rightOf 4 (some .int) [(0, 9, 12, 21)] :: ((wsL_rightOf_r1 ++ wsL_rightOf_r2) ++ wsX00 ++ (vx_atS RX0 254 "java/lang/IndexOutOfBoundsException" ["java/lang/RuntimeException", "java/lang/Exception"]).filter goodWord)
def wsL_weightOf_r1 : List Cond := [Cond.classLink RL 21 "java/lang/IndexOutOfBoundsException", Cond.methodLink RL 59 yX0_weightOf, Cond.instanceMethod yX0_weightOf, Cond.selects RX0 yX0_weightOf yX0_weightOf, Cond.initialized RX0, Cond.code yX0_weightOf cX0_weightOf 2 (some .int), Cond.fieldLink RX0 22 "ExamGarden" "weights" "[I", Cond.methodLink RX0 124 yX0_requireFork, Cond.instanceMethod yX0_requireFork, Cond.selects RX0 yX0_requireFork yX0_requireFork, Cond.code yX0_requireFork cX0_requireFork 2 none, Cond.classLink RX0 250 "java/lang/IndexOutOfBoundsException", Cond.initialized "java/lang/IndexOutOfBoundsException", Cond.methodLink RX0 84 yX0_requirePlace, Cond.instanceMethod yX0_requirePlace, Cond.selects RX0 yX0_requirePlace yX0_requirePlace, Cond.code yX0_requirePlace cX0_requirePlace 2 none, Cond.fieldLink RX0 60 "ExamGarden" "placeCount" "I", Cond.methodLink RX0 135 yX0_holdsExam, Cond.instanceMethod yX0_holdsExam, Cond.selects RX0 yX0_holdsExam yX0_holdsExam, Cond.code yX0_holdsExam cX0_holdsExam 2 (some .boolean), Cond.fieldLink RX0 64 "ExamGarden" "examBits" "J", Cond.methodLink RX0 68 yX0_bitOf]
def wsL_weightOf_r2 : List Cond := [Cond.static yX0_bitOf, Cond.code yX0_bitOf cX0_bitOf 1 (some .long), Cond.methodLink RX0 100 yX0_at, Cond.static yX0_at, Cond.code yX0_at cX0_at 2 (some .int)]
def wsL_weightOf : List Cond := .codeWith yL_weightOf cL_weightOf 4 (some .int) [(0, 9, 12, 21)] :: ((wsL_weightOf_r1 ++ wsL_weightOf_r2) ++ wsX00 ++ (vx_atS RX0 254 "java/lang/IndexOutOfBoundsException" ["java/lang/RuntimeException", "java/lang/Exception"]).filter goodWord)
def wsL_placeOf : List Cond := .codeWith yL_placeOf cL_placeOf 4 (some .int) [(0, 9, 12, 21)] :: ([.classLink RL 21 "java/lang/IndexOutOfBoundsException", .methodLink RL 62 yX0_placeOf, .instanceMethod yX0_placeOf, .selects RX0 yX0_placeOf yX0_placeOf, .initialized RX0, .code yX0_placeOf cX0_placeOf 2 (some .int), .fieldLink RX0 41 "ExamGarden" "standing" "[I", .methodLink RX0 132 yX0_requireStudent, .instanceMethod yX0_requireStudent, .selects RX0 yX0_requireStudent yX0_requireStudent, .code yX0_requireStudent cX0_requireStudent 2 none, .classLink RX0 250 "java/lang/IndexOutOfBoundsException", .initialized "java/lang/IndexOutOfBoundsException", .fieldLink RX0 127 "ExamGarden" "studentCount" "I", .methodLink RX0 100 yX0_at, .static yX0_at, .code yX0_at cX0_at 2 (some .int)] ++ wsX00 ++ (vx_atS RX0 254 "java/lang/IndexOutOfBoundsException" ["java/lang/RuntimeException", "java/lang/Exception"]).filter goodWord)
def wsL_passedBy : List Cond := .codeWith yL_passedBy cL_passedBy 4 (some .int) [(0, 9, 12, 21)] :: ([.classLink RL 21 "java/lang/IndexOutOfBoundsException", .methodLink RL 65 yX0_passedBy, .instanceMethod yX0_passedBy, .selects RX0 yX0_passedBy yX0_passedBy, .initialized RX0, .code yX0_passedBy cX0_passedBy 2 (some .int), .fieldLink RX0 44 "ExamGarden" "passedCounts" "[I", .methodLink RX0 132 yX0_requireStudent, .instanceMethod yX0_requireStudent, .selects RX0 yX0_requireStudent yX0_requireStudent, .code yX0_requireStudent cX0_requireStudent 2 none, .classLink RX0 250 "java/lang/IndexOutOfBoundsException", .initialized "java/lang/IndexOutOfBoundsException", .fieldLink RX0 127 "ExamGarden" "studentCount" "I", .methodLink RX0 100 yX0_at, .static yX0_at, .code yX0_at cX0_at 2 (some .int)] ++ wsX00 ++ (vx_atS RX0 254 "java/lang/IndexOutOfBoundsException" ["java/lang/RuntimeException", "java/lang/Exception"]).filter goodWord)
def wsL_sureGrade : List Cond := .codeWith yL_sureGrade cL_sureGrade 4 (some .int) [(0, 9, 12, 21)] :: ([.classLink RL 21 "java/lang/IndexOutOfBoundsException", .methodLink RL 68 yX0_sureGrade, .instanceMethod yX0_sureGrade, .selects RX0 yX0_sureGrade yX0_sureGrade, .initialized RX0, .code yX0_sureGrade cX0_sureGrade 2 (some .int), .fieldLink RX0 28 "ExamGarden" "sureGrades" "[I", .methodLink RX0 84 yX0_requirePlace, .instanceMethod yX0_requirePlace, .selects RX0 yX0_requirePlace yX0_requirePlace, .code yX0_requirePlace cX0_requirePlace 2 none, .classLink RX0 250 "java/lang/IndexOutOfBoundsException", .initialized "java/lang/IndexOutOfBoundsException", .fieldLink RX0 60 "ExamGarden" "placeCount" "I", .methodLink RX0 100 yX0_at, .static yX0_at, .code yX0_at cX0_at 2 (some .int)] ++ wsX00 ++ (vx_atS RX0 254 "java/lang/IndexOutOfBoundsException" ["java/lang/RuntimeException", "java/lang/Exception"]).filter goodWord)
def wsL_hope : List Cond := .codeWith yL_hope cL_hope 4 (some .int) [(0, 9, 12, 21)] :: ([.classLink RL 21 "java/lang/IndexOutOfBoundsException", .methodLink RL 71 yX0_hope, .instanceMethod yX0_hope, .selects RX0 yX0_hope yX0_hope, .initialized RX0, .code yX0_hope cX0_hope 2 (some .int), .fieldLink RX0 31 "ExamGarden" "hopes" "[I", .methodLink RX0 84 yX0_requirePlace, .instanceMethod yX0_requirePlace, .selects RX0 yX0_requirePlace yX0_requirePlace, .code yX0_requirePlace cX0_requirePlace 2 none, .classLink RX0 250 "java/lang/IndexOutOfBoundsException", .initialized "java/lang/IndexOutOfBoundsException", .fieldLink RX0 60 "ExamGarden" "placeCount" "I", .methodLink RX0 100 yX0_at, .static yX0_at, .code yX0_at cX0_at 2 (some .int)] ++ wsX00 ++ (vx_atS RX0 254 "java/lang/IndexOutOfBoundsException" ["java/lang/RuntimeException", "java/lang/Exception"]).filter goodWord)
def wsL_reaches : List Cond := .codeWith yL_reaches cL_reaches 5 (some .int) [(0, 17, 20, 21)] :: ([.classLink RL 21 "java/lang/IndexOutOfBoundsException", .methodLink RL 74 yX0_reaches, .instanceMethod yX0_reaches, .selects RX0 yX0_reaches yX0_reaches, .initialized RX0, .code yX0_reaches cX0_reaches 3 (some .boolean), .fieldLink RX0 37 "ExamGarden" "reachedBits" "[J", .methodLink RX0 84 yX0_requirePlace, .instanceMethod yX0_requirePlace, .selects RX0 yX0_requirePlace yX0_requirePlace, .code yX0_requirePlace cX0_requirePlace 2 none, .classLink RX0 250 "java/lang/IndexOutOfBoundsException", .initialized "java/lang/IndexOutOfBoundsException", .fieldLink RX0 60 "ExamGarden" "placeCount" "I", .methodLink RX0 90 yX0_bitsAt, .static yX0_bitsAt, .code yX0_bitsAt cX0_bitsAt 2 (some .long), .methodLink RX0 68 yX0_bitOf, .static yX0_bitOf, .code yX0_bitOf cX0_bitOf 1 (some .long)] ++ wsX00 ++ (vx_atS RX0 254 "java/lang/IndexOutOfBoundsException" ["java/lang/RuntimeException", "java/lang/Exception"]).filter goodWord)
def wsL_examsFrom_r1 : List Cond := [Cond.classLink RL 21 "java/lang/IndexOutOfBoundsException", Cond.methodLink RL 78 yX0_examsFrom, Cond.instanceMethod yX0_examsFrom, Cond.selects RX0 yX0_examsFrom yX0_examsFrom, Cond.initialized RX0, Cond.code yX0_examsFrom cX0_examsFrom 2 (some .int), Cond.fieldLink RX0 37 "ExamGarden" "reachedBits" "[J", Cond.fieldLink RX0 64 "ExamGarden" "examBits" "J", Cond.methodLink RX0 84 yX0_requirePlace, Cond.instanceMethod yX0_requirePlace, Cond.selects RX0 yX0_requirePlace yX0_requirePlace, Cond.code yX0_requirePlace cX0_requirePlace 2 none, Cond.classLink RX0 250 "java/lang/IndexOutOfBoundsException", Cond.initialized "java/lang/IndexOutOfBoundsException", Cond.fieldLink RX0 60 "ExamGarden" "placeCount" "I", Cond.methodLink RX0 90 yX0_bitsAt, Cond.static yX0_bitsAt, Cond.code yX0_bitsAt cX0_bitsAt 2 (some .long), Cond.methodLink RX0 153 yJ13_bitCount_95d88, Cond.static yJ13_bitCount_95d88, Cond.initialized RJ13, Cond.code yJ13_bitCount_95d88 cJ13_bitCount_95d88 2 (some .int), Cond.constantLong RJ13 314 (6148914691236517205), Cond.constantLong RJ13 316 (3689348814741910323)]
def wsL_examsFrom_r2 : List Cond := [Cond.constantLong RJ13 318 (1085102592571150095)]
def wsL_examsFrom : List Cond := .codeWith yL_examsFrom cL_examsFrom 4 (some .int) [(0, 9, 12, 21)] :: ((wsL_examsFrom_r1 ++ wsL_examsFrom_r2) ++ wsX00 ++ (vx_atS RX0 254 "java/lang/IndexOutOfBoundsException" ["java/lang/RuntimeException", "java/lang/Exception"]).filter goodWord)
def wsL_risk_r1 : List Cond := [Cond.classLink RL 21 "java/lang/IndexOutOfBoundsException", Cond.methodLink RL 81 yX0_risk, Cond.instanceMethod yX0_risk, Cond.selects RX0 yX0_risk yX0_risk, Cond.initialized RX0, Cond.code yX0_risk cX0_risk 3 (some .int), Cond.methodLink RX0 124 yX0_requireFork, Cond.instanceMethod yX0_requireFork, Cond.selects RX0 yX0_requireFork yX0_requireFork, Cond.code yX0_requireFork cX0_requireFork 2 none, Cond.classLink RX0 250 "java/lang/IndexOutOfBoundsException", Cond.initialized "java/lang/IndexOutOfBoundsException", Cond.methodLink RX0 84 yX0_requirePlace, Cond.instanceMethod yX0_requirePlace, Cond.selects RX0 yX0_requirePlace yX0_requirePlace, Cond.code yX0_requirePlace cX0_requirePlace 2 none, Cond.fieldLink RX0 60 "ExamGarden" "placeCount" "I", Cond.methodLink RX0 135 yX0_holdsExam, Cond.instanceMethod yX0_holdsExam, Cond.selects RX0 yX0_holdsExam yX0_holdsExam, Cond.code yX0_holdsExam cX0_holdsExam 2 (some .boolean), Cond.fieldLink RX0 64 "ExamGarden" "examBits" "J", Cond.methodLink RX0 68 yX0_bitOf, Cond.static yX0_bitOf]
def wsL_risk_r2 : List Cond := [Cond.code yX0_bitOf cX0_bitOf 1 (some .long), Cond.methodLink RX0 159 yX0_riskOfPath, Cond.instanceMethod yX0_riskOfPath, Cond.selects RX0 yX0_riskOfPath yX0_riskOfPath, Cond.code yX0_riskOfPath cX0_riskOfPath 5 (some .int), Cond.fieldLink RX0 28 "ExamGarden" "sureGrades" "[I", Cond.fieldLink RX0 31 "ExamGarden" "hopes" "[I", Cond.methodLink RX0 269 Lib.Math.max.name, Cond.static Lib.Math.max.name, Cond.initialized "java/lang/Math", Cond.code Lib.Math.max.name Lib.Math.max.code 2 (some .int), Cond.fieldLink RX0 22 "ExamGarden" "weights" "[I", Cond.methodLink RX0 163 yX0_pathFrom, Cond.instanceMethod yX0_pathFrom, Cond.selects RX0 yX0_pathFrom yX0_pathFrom, Cond.code yX0_pathFrom cX0_pathFrom 3 (some .int), Cond.fieldLink RX0 19 "ExamGarden" "rights" "[I", Cond.fieldLink RX0 16 "ExamGarden" "lefts" "[I", Cond.methodLink RX0 100 yX0_at, Cond.static yX0_at, Cond.code yX0_at cX0_at 2 (some .int)]
def wsL_risk : List Cond := .codeWith yL_risk cL_risk 5 (some .int) [(0, 10, 13, 21)] :: ((wsL_risk_r1 ++ wsL_risk_r2) ++ wsX00 ++ (vx_atS RX0 254 "java/lang/IndexOutOfBoundsException" ["java/lang/RuntimeException", "java/lang/Exception"]).filter goodWord)
def wsL_planTurnsRight_r1 : List Cond := [Cond.classLink RL 21 "java/lang/IndexOutOfBoundsException", Cond.methodLink RL 84 yX0_planTurnsRight, Cond.instanceMethod yX0_planTurnsRight, Cond.selects RX0 yX0_planTurnsRight yX0_planTurnsRight, Cond.initialized RX0, Cond.code yX0_planTurnsRight cX0_planTurnsRight 2 (some .boolean), Cond.methodLink RX0 124 yX0_requireFork, Cond.instanceMethod yX0_requireFork, Cond.selects RX0 yX0_requireFork yX0_requireFork, Cond.code yX0_requireFork cX0_requireFork 2 none, Cond.classLink RX0 250 "java/lang/IndexOutOfBoundsException", Cond.initialized "java/lang/IndexOutOfBoundsException", Cond.methodLink RX0 84 yX0_requirePlace, Cond.instanceMethod yX0_requirePlace, Cond.selects RX0 yX0_requirePlace yX0_requirePlace, Cond.code yX0_requirePlace cX0_requirePlace 2 none, Cond.fieldLink RX0 60 "ExamGarden" "placeCount" "I", Cond.methodLink RX0 135 yX0_holdsExam, Cond.instanceMethod yX0_holdsExam, Cond.selects RX0 yX0_holdsExam yX0_holdsExam, Cond.code yX0_holdsExam cX0_holdsExam 2 (some .boolean), Cond.fieldLink RX0 64 "ExamGarden" "examBits" "J", Cond.methodLink RX0 68 yX0_bitOf, Cond.static yX0_bitOf]
def wsL_planTurnsRight_r2 : List Cond := [Cond.code yX0_bitOf cX0_bitOf 1 (some .long), Cond.methodLink RX0 150 yX0_plansRight, Cond.instanceMethod yX0_plansRight, Cond.selects RX0 yX0_plansRight yX0_plansRight, Cond.code yX0_plansRight cX0_plansRight 2 (some .boolean), Cond.methodLink RX0 159 yX0_riskOfPath, Cond.instanceMethod yX0_riskOfPath, Cond.selects RX0 yX0_riskOfPath yX0_riskOfPath, Cond.code yX0_riskOfPath cX0_riskOfPath 5 (some .int), Cond.fieldLink RX0 28 "ExamGarden" "sureGrades" "[I", Cond.fieldLink RX0 31 "ExamGarden" "hopes" "[I", Cond.methodLink RX0 269 Lib.Math.max.name, Cond.static Lib.Math.max.name, Cond.initialized "java/lang/Math", Cond.code Lib.Math.max.name Lib.Math.max.code 2 (some .int), Cond.fieldLink RX0 22 "ExamGarden" "weights" "[I", Cond.methodLink RX0 163 yX0_pathFrom, Cond.instanceMethod yX0_pathFrom, Cond.selects RX0 yX0_pathFrom yX0_pathFrom, Cond.code yX0_pathFrom cX0_pathFrom 3 (some .int), Cond.fieldLink RX0 19 "ExamGarden" "rights" "[I", Cond.fieldLink RX0 16 "ExamGarden" "lefts" "[I", Cond.methodLink RX0 100 yX0_at, Cond.static yX0_at]
def wsL_planTurnsRight_r3 : List Cond := [Cond.code yX0_at cX0_at 2 (some .int)]
def wsL_planTurnsRight : List Cond := .codeWith yL_planTurnsRight cL_planTurnsRight 4 (some .int) [(0, 16, 19, 21)] :: ((wsL_planTurnsRight_r1 ++ (wsL_planTurnsRight_r2 ++ wsL_planTurnsRight_r3)) ++ wsX00 ++ (vx_atS RX0 254 "java/lang/IndexOutOfBoundsException" ["java/lang/RuntimeException", "java/lang/Exception"]).filter goodWord)
def wsL_planLeadsTo_r1 : List Cond := [Cond.classLink RL 21 "java/lang/IndexOutOfBoundsException", Cond.methodLink RL 87 yX0_planLeadsTo, Cond.instanceMethod yX0_planLeadsTo, Cond.selects RX0 yX0_planLeadsTo yX0_planLeadsTo, Cond.initialized RX0, Cond.code yX0_planLeadsTo cX0_planLeadsTo 4 (some .int), Cond.methodLink RX0 84 yX0_requirePlace, Cond.instanceMethod yX0_requirePlace, Cond.selects RX0 yX0_requirePlace yX0_requirePlace, Cond.code yX0_requirePlace cX0_requirePlace 2 none, Cond.classLink RX0 250 "java/lang/IndexOutOfBoundsException", Cond.initialized "java/lang/IndexOutOfBoundsException", Cond.fieldLink RX0 60 "ExamGarden" "placeCount" "I", Cond.methodLink RX0 135 yX0_holdsExam, Cond.instanceMethod yX0_holdsExam, Cond.selects RX0 yX0_holdsExam yX0_holdsExam, Cond.code yX0_holdsExam cX0_holdsExam 2 (some .boolean), Cond.fieldLink RX0 64 "ExamGarden" "examBits" "J", Cond.methodLink RX0 68 yX0_bitOf, Cond.static yX0_bitOf, Cond.code yX0_bitOf cX0_bitOf 1 (some .long), Cond.methodLink RX0 150 yX0_plansRight, Cond.instanceMethod yX0_plansRight, Cond.selects RX0 yX0_plansRight yX0_plansRight]
def wsL_planLeadsTo_r2 : List Cond := [Cond.code yX0_plansRight cX0_plansRight 2 (some .boolean), Cond.methodLink RX0 159 yX0_riskOfPath, Cond.instanceMethod yX0_riskOfPath, Cond.selects RX0 yX0_riskOfPath yX0_riskOfPath, Cond.code yX0_riskOfPath cX0_riskOfPath 5 (some .int), Cond.fieldLink RX0 28 "ExamGarden" "sureGrades" "[I", Cond.fieldLink RX0 31 "ExamGarden" "hopes" "[I", Cond.methodLink RX0 269 Lib.Math.max.name, Cond.static Lib.Math.max.name, Cond.initialized "java/lang/Math", Cond.code Lib.Math.max.name Lib.Math.max.code 2 (some .int), Cond.fieldLink RX0 22 "ExamGarden" "weights" "[I", Cond.methodLink RX0 163 yX0_pathFrom, Cond.instanceMethod yX0_pathFrom, Cond.selects RX0 yX0_pathFrom yX0_pathFrom, Cond.code yX0_pathFrom cX0_pathFrom 3 (some .int), Cond.fieldLink RX0 19 "ExamGarden" "rights" "[I", Cond.fieldLink RX0 16 "ExamGarden" "lefts" "[I", Cond.methodLink RX0 100 yX0_at, Cond.static yX0_at, Cond.code yX0_at cX0_at 2 (some .int)]
def wsL_planLeadsTo : List Cond := .codeWith yL_planLeadsTo cL_planLeadsTo 4 (some .int) [(0, 9, 12, 21)] :: ((wsL_planLeadsTo_r1 ++ wsL_planLeadsTo_r2) ++ wsX00 ++ (vx_atS RX0 254 "java/lang/IndexOutOfBoundsException" ["java/lang/RuntimeException", "java/lang/Exception"]).filter goodWord)
def wsL_hindsight_r1 : List Cond := [Cond.classLink RL 21 "java/lang/IndexOutOfBoundsException", Cond.methodLink RL 90 yX0_hindsight, Cond.instanceMethod yX0_hindsight, Cond.selects RX0 yX0_hindsight yX0_hindsight, Cond.initialized RX0, Cond.code yX0_hindsight cX0_hindsight 2 (some .int), Cond.fieldLink RX0 34 "ExamGarden" "hindsights" "[I", Cond.methodLink RX0 124 yX0_requireFork, Cond.instanceMethod yX0_requireFork, Cond.selects RX0 yX0_requireFork yX0_requireFork, Cond.code yX0_requireFork cX0_requireFork 2 none, Cond.classLink RX0 250 "java/lang/IndexOutOfBoundsException", Cond.initialized "java/lang/IndexOutOfBoundsException", Cond.methodLink RX0 84 yX0_requirePlace, Cond.instanceMethod yX0_requirePlace, Cond.selects RX0 yX0_requirePlace yX0_requirePlace, Cond.code yX0_requirePlace cX0_requirePlace 2 none, Cond.fieldLink RX0 60 "ExamGarden" "placeCount" "I", Cond.methodLink RX0 135 yX0_holdsExam, Cond.instanceMethod yX0_holdsExam, Cond.selects RX0 yX0_holdsExam yX0_holdsExam, Cond.code yX0_holdsExam cX0_holdsExam 2 (some .boolean), Cond.fieldLink RX0 64 "ExamGarden" "examBits" "J", Cond.methodLink RX0 68 yX0_bitOf]
def wsL_hindsight_r2 : List Cond := [Cond.static yX0_bitOf, Cond.code yX0_bitOf cX0_bitOf 1 (some .long), Cond.methodLink RX0 100 yX0_at, Cond.static yX0_at, Cond.code yX0_at cX0_at 2 (some .int)]
def wsL_hindsight : List Cond := .codeWith yL_hindsight cL_hindsight 4 (some .int) [(0, 9, 12, 21)] :: ((wsL_hindsight_r1 ++ wsL_hindsight_r2) ++ wsX00 ++ (vx_atS RX0 254 "java/lang/IndexOutOfBoundsException" ["java/lang/RuntimeException", "java/lang/Exception"]).filter goodWord)
def wsL_regretOf_r1 : List Cond := [Cond.classLink RL 21 "java/lang/IndexOutOfBoundsException", Cond.classLink RL 15 "java/lang/IllegalStateException", Cond.methodLink RL 93 yX0_regretOf, Cond.instanceMethod yX0_regretOf, Cond.selects RX0 yX0_regretOf yX0_regretOf, Cond.initialized RX0, Cond.code yX0_regretOf cX0_regretOf 2 (some .int), Cond.methodLink RX0 132 yX0_requireStudent, Cond.instanceMethod yX0_requireStudent, Cond.selects RX0 yX0_requireStudent yX0_requireStudent, Cond.code yX0_requireStudent cX0_requireStudent 2 none, Cond.classLink RX0 250 "java/lang/IndexOutOfBoundsException", Cond.initialized "java/lang/IndexOutOfBoundsException", Cond.fieldLink RX0 127 "ExamGarden" "studentCount" "I", Cond.methodLink RX0 170 yX0_requireGraded, Cond.instanceMethod yX0_requireGraded, Cond.selects RX0 yX0_requireGraded yX0_requireGraded, Cond.code yX0_requireGraded cX0_requireGraded 2 none, Cond.classLink RX0 110 "java/lang/IllegalStateException", Cond.initialized "java/lang/IllegalStateException", Cond.fieldLink RX0 41 "ExamGarden" "standing" "[I", Cond.methodLink RX0 100 yX0_at, Cond.static yX0_at, Cond.code yX0_at cX0_at 2 (some .int)]
def wsL_regretOf_r2 : List Cond := [Cond.methodLink RX0 106 yX0_hasGrade, Cond.instanceMethod yX0_hasGrade, Cond.selects RX0 yX0_hasGrade yX0_hasGrade, Cond.code yX0_hasGrade cX0_hasGrade 2 (some .boolean), Cond.fieldLink RX0 25 "ExamGarden" "grades" "[I", Cond.methodLink RX0 173 yX0_regretOfAll, Cond.instanceMethod yX0_regretOfAll, Cond.selects RX0 yX0_regretOfAll yX0_regretOfAll, Cond.code yX0_regretOfAll cX0_regretOfAll 5 (some .int), Cond.fieldLink RX0 44 "ExamGarden" "passedCounts" "[I", Cond.methodLink RX0 176 yX0_regretOfStep, Cond.instanceMethod yX0_regretOfStep, Cond.selects RX0 yX0_regretOfStep yX0_regretOfStep, Cond.code yX0_regretOfStep cX0_regretOfStep 5 (some .int), Cond.fieldLink RX0 34 "ExamGarden" "hindsights" "[I", Cond.methodLink RX0 269 Lib.Math.max.name, Cond.static Lib.Math.max.name, Cond.initialized "java/lang/Math", Cond.code Lib.Math.max.name Lib.Math.max.code 2 (some .int), Cond.fieldLink RX0 22 "ExamGarden" "weights" "[I", Cond.methodLink RX0 146 yX0_passedFork, Cond.instanceMethod yX0_passedFork, Cond.selects RX0 yX0_passedFork yX0_passedFork, Cond.code yX0_passedFork cX0_passedFork 3 (some .int)]
def wsL_regretOf_r3 : List Cond := [Cond.fieldLink RX0 47 "ExamGarden" "passedForks" "[I"]
def wsL_regretOf : List Cond := .codeWith yL_regretOf cL_regretOf 4 (some .int) [(0, 9, 12, 21), (0, 9, 15, 15)] :: ((wsL_regretOf_r1 ++ (wsL_regretOf_r2 ++ wsL_regretOf_r3)) ++ wsX00 ++ (vx_atS RX0 254 "java/lang/IndexOutOfBoundsException" ["java/lang/RuntimeException", "java/lang/Exception"]).filter goodWord ++ (vx_atS RX0 114 "java/lang/IllegalStateException" ["java/lang/RuntimeException", "java/lang/Exception"]).filter goodWord)
def wsL_worstFork_r1 : List Cond := [Cond.classLink RL 21 "java/lang/IndexOutOfBoundsException", Cond.classLink RL 15 "java/lang/IllegalStateException", Cond.methodLink RL 96 yX0_worstFork, Cond.instanceMethod yX0_worstFork, Cond.selects RX0 yX0_worstFork yX0_worstFork, Cond.initialized RX0, Cond.code yX0_worstFork cX0_worstFork 7 (some .int), Cond.fieldLink RX0 44 "ExamGarden" "passedCounts" "[I", Cond.methodLink RX0 132 yX0_requireStudent, Cond.instanceMethod yX0_requireStudent, Cond.selects RX0 yX0_requireStudent yX0_requireStudent, Cond.code yX0_requireStudent cX0_requireStudent 2 none, Cond.classLink RX0 250 "java/lang/IndexOutOfBoundsException", Cond.initialized "java/lang/IndexOutOfBoundsException", Cond.fieldLink RX0 127 "ExamGarden" "studentCount" "I", Cond.methodLink RX0 170 yX0_requireGraded, Cond.instanceMethod yX0_requireGraded, Cond.selects RX0 yX0_requireGraded yX0_requireGraded, Cond.code yX0_requireGraded cX0_requireGraded 2 none, Cond.classLink RX0 110 "java/lang/IllegalStateException", Cond.initialized "java/lang/IllegalStateException", Cond.fieldLink RX0 41 "ExamGarden" "standing" "[I", Cond.methodLink RX0 100 yX0_at, Cond.static yX0_at]
def wsL_worstFork_r2 : List Cond := [Cond.code yX0_at cX0_at 2 (some .int), Cond.methodLink RX0 106 yX0_hasGrade, Cond.instanceMethod yX0_hasGrade, Cond.selects RX0 yX0_hasGrade yX0_hasGrade, Cond.code yX0_hasGrade cX0_hasGrade 2 (some .boolean), Cond.fieldLink RX0 25 "ExamGarden" "grades" "[I", Cond.methodLink RX0 176 yX0_regretOfStep, Cond.instanceMethod yX0_regretOfStep, Cond.selects RX0 yX0_regretOfStep yX0_regretOfStep, Cond.code yX0_regretOfStep cX0_regretOfStep 5 (some .int), Cond.fieldLink RX0 34 "ExamGarden" "hindsights" "[I", Cond.methodLink RX0 269 Lib.Math.max.name, Cond.static Lib.Math.max.name, Cond.initialized "java/lang/Math", Cond.code Lib.Math.max.name Lib.Math.max.code 2 (some .int), Cond.fieldLink RX0 22 "ExamGarden" "weights" "[I", Cond.methodLink RX0 146 yX0_passedFork, Cond.instanceMethod yX0_passedFork, Cond.selects RX0 yX0_passedFork yX0_passedFork, Cond.code yX0_passedFork cX0_passedFork 3 (some .int), Cond.fieldLink RX0 47 "ExamGarden" "passedForks" "[I"]
def wsL_worstFork : List Cond := .codeWith yL_worstFork cL_worstFork 4 (some .int) [(0, 9, 12, 21), (0, 9, 15, 15)] :: ((wsL_worstFork_r1 ++ wsL_worstFork_r2) ++ wsX00 ++ (vx_atS RX0 254 "java/lang/IndexOutOfBoundsException" ["java/lang/RuntimeException", "java/lang/Exception"]).filter goodWord ++ (vx_atS RX0 114 "java/lang/IllegalStateException" ["java/lang/RuntimeException", "java/lang/Exception"]).filter goodWord)
def wsL_law0_r1 : List Cond := [Cond.classLink RL 8 RX0, Cond.instantiable RX0 18, Cond.initialized RX0, Cond.classLink RL 100 RX1, Cond.instantiable RX1 13, Cond.initialized RX1, Cond.arrayClass .long, Cond.methodLink RL 99 yX0_init, Cond.instanceMethod yX0_init, Cond.code yX0_init cX0_init 1 none, Cond.methodLink RX0 1 objectInit, Cond.instanceMethod objectInit, Cond.code objectInit ⟨#[0xb1]⟩ 1 none, Cond.arrayClass .int, Cond.fieldLink RX0 9 "ExamGarden" "lowestGrades" "[I", Cond.fieldLink RX0 13 "ExamGarden" "highestGrades" "[I", Cond.fieldLink RX0 16 "ExamGarden" "lefts" "[I", Cond.fieldLink RX0 19 "ExamGarden" "rights" "[I", Cond.fieldLink RX0 22 "ExamGarden" "weights" "[I", Cond.fieldLink RX0 25 "ExamGarden" "grades" "[I", Cond.fieldLink RX0 28 "ExamGarden" "sureGrades" "[I", Cond.fieldLink RX0 31 "ExamGarden" "hopes" "[I", Cond.fieldLink RX0 34 "ExamGarden" "hindsights" "[I", Cond.fieldLink RX0 37 "ExamGarden" "reachedBits" "[J"]
def wsL_law0_r2 : List Cond := [Cond.fieldLink RX0 41 "ExamGarden" "standing" "[I", Cond.fieldLink RX0 44 "ExamGarden" "passedCounts" "[I", Cond.fieldLink RX0 47 "ExamGarden" "passedForks" "[I", Cond.methodLink RL 102 yX1_init, Cond.instanceMethod yX1_init, Cond.code yX1_init cX1_init 1 none, Cond.methodLink RX1 1 objectInit, Cond.arrayClass .boolean, Cond.fieldLink RX1 9 "ExamGardenModel" "forks" "[Z", Cond.fieldLink RX1 13 "ExamGardenModel" "one" "[I", Cond.fieldLink RX1 17 "ExamGardenModel" "other" "[I", Cond.fieldLink RX1 20 "ExamGardenModel" "third" "[I", Cond.fieldLink RX1 23 "ExamGardenModel" "reach" "[J", Cond.fieldLink RX1 27 "ExamGardenModel" "sure" "[I", Cond.fieldLink RX1 30 "ExamGardenModel" "hopes" "[I", Cond.fieldLink RX1 33 "ExamGardenModel" "stands" "[I", Cond.fieldLink RX1 36 "ExamGardenModel" "passed" "[I", Cond.fieldLink RX1 39 "ExamGardenModel" "ways" "[I", Cond.methodLink RL 103 yL_addExam, Cond.static yL_addExam, Cond.initialized RL, Cond.codeWith yL_addExam cL_addExam 5 (some .int) [(0, 10, 13, 13), (0, 10, 17, 15)], Cond.classLink RL 13 "java/lang/IllegalArgumentException", Cond.classLink RL 15 "java/lang/IllegalStateException"]
def wsL_law0_r3 : List Cond := [Cond.methodLink RL 7 yX0_addExam, Cond.instanceMethod yX0_addExam, Cond.selects RX0 yX0_addExam yX0_addExam, Cond.code yX0_addExam cX0_addExam 4 (some .int), Cond.classLink RX0 50 "java/lang/IllegalArgumentException", Cond.initialized "java/lang/IllegalArgumentException", Cond.fieldLink RX0 60 "ExamGarden" "placeCount" "I", Cond.fieldLink RX0 64 "ExamGarden" "examBits" "J", Cond.methodLink RX0 57 yX0_requireRoom, Cond.instanceMethod yX0_requireRoom, Cond.selects RX0 yX0_requireRoom yX0_requireRoom, Cond.code yX0_requireRoom cX0_requireRoom 1 none, Cond.classLink RX0 110 "java/lang/IllegalStateException", Cond.initialized "java/lang/IllegalStateException", Cond.methodLink RX0 68 yX0_bitOf, Cond.static yX0_bitOf, Cond.code yX0_bitOf cX0_bitOf 1 (some .long), Cond.methodLink RX0 72 yX0_put, Cond.static yX0_put, Cond.code yX0_put cX0_put 3 none, Cond.methodLink RX0 76 yX0_putBits, Cond.static yX0_putBits, Cond.code yX0_putBits cX0_putBits 4 none, Cond.methodLink RX0 80 yX0_settleExam]
def wsL_law0_r4 : List Cond := [Cond.instanceMethod yX0_settleExam, Cond.selects RX0 yX0_settleExam yX0_settleExam, Cond.code yX0_settleExam cX0_settleExam 4 none, Cond.methodLink RX0 106 yX0_hasGrade, Cond.instanceMethod yX0_hasGrade, Cond.selects RX0 yX0_hasGrade yX0_hasGrade, Cond.code yX0_hasGrade cX0_hasGrade 2 (some .boolean), Cond.methodLink RX0 100 yX0_at, Cond.static yX0_at, Cond.code yX0_at cX0_at 2 (some .int), Cond.methodLink RL 108 yX1_addExam, Cond.instanceMethod yX1_addExam, Cond.selects RX1 yX1_addExam yX1_addExam, Cond.code yX1_addExam cX1_addExam 3 (some .int), Cond.fieldLink RX1 42 "ExamGardenModel" "thrown" "I", Cond.fieldLink RX1 46 "ExamGardenModel" "places" "I", Cond.methodLink RX1 96 yX1_no, Cond.instanceMethod yX1_no, Cond.selects RX1 yX1_no yX1_no, Cond.code yX1_no cX1_no 2 (some .int), Cond.methodLink RL 109 yX1_thrown, Cond.instanceMethod yX1_thrown, Cond.selects RX1 yX1_thrown yX1_thrown, Cond.code yX1_thrown cX1_thrown 1 (some .int)]
def wsL_law0_r5 : List Cond := [Cond.methodLink RL 113 yL_addFork, Cond.static yL_addFork, Cond.codeWith yL_addFork cL_addFork 6 (some .int) [(0, 12, 15, 21), (0, 12, 19, 13), (0, 12, 23, 15)], Cond.classLink RL 21 "java/lang/IndexOutOfBoundsException", Cond.methodLink RL 17 yX0_addFork, Cond.instanceMethod yX0_addFork, Cond.selects RX0 yX0_addFork yX0_addFork, Cond.code yX0_addFork cX0_addFork 5 (some .int), Cond.methodLink RX0 84 yX0_requirePlace, Cond.instanceMethod yX0_requirePlace, Cond.selects RX0 yX0_requirePlace yX0_requirePlace, Cond.code yX0_requirePlace cX0_requirePlace 2 none, Cond.classLink RX0 250 "java/lang/IndexOutOfBoundsException", Cond.initialized "java/lang/IndexOutOfBoundsException", Cond.methodLink RX0 87 yX0_requireWeight, Cond.static yX0_requireWeight, Cond.code yX0_requireWeight cX0_requireWeight 1 none, Cond.methodLink RX0 90 yX0_bitsAt, Cond.static yX0_bitsAt, Cond.code yX0_bitsAt cX0_bitsAt 2 (some .long), Cond.methodLink RX0 94 yX0_settleFork, Cond.instanceMethod yX0_settleFork, Cond.selects RX0 yX0_settleFork yX0_settleFork, Cond.code yX0_settleFork cX0_settleFork 2 none]
def wsL_law0_r6 : List Cond := [Cond.methodLink RX0 265 yX0_settleGreater, Cond.instanceMethod yX0_settleGreater, Cond.selects RX0 yX0_settleGreater yX0_settleGreater, Cond.code yX0_settleGreater cX0_settleGreater 3 none, Cond.methodLink RX0 269 Lib.Math.max.name, Cond.static Lib.Math.max.name, Cond.initialized "java/lang/Math", Cond.code Lib.Math.max.name Lib.Math.max.code 2 (some .int), Cond.methodLink RL 116 yX1_addFork, Cond.instanceMethod yX1_addFork, Cond.selects RX1 yX1_addFork yX1_addFork, Cond.code yX1_addFork cX1_addFork 4 (some .int), Cond.methodLink RX1 53 yX1_isPlace, Cond.instanceMethod yX1_isPlace, Cond.selects RX1 yX1_isPlace yX1_isPlace, Cond.code yX1_isPlace cX1_isPlace 2 (some .boolean), Cond.methodLink RX1 49 yX1_isIn, Cond.static yX1_isIn, Cond.code yX1_isIn cX1_isIn 3 (some .boolean), Cond.methodLink RL 117 yL_grade, Cond.static yL_grade, Cond.codeWith yL_grade cL_grade 5 (some .int) [(0, 10, 13, 21), (0, 10, 17, 13), (0, 10, 21, 15)], Cond.methodLink RL 23 yX0_grade, Cond.instanceMethod yX0_grade]
def wsL_law0_r7 : List Cond := [Cond.selects RX0 yX0_grade yX0_grade, Cond.code yX0_grade cX0_grade 3 (some .int), Cond.fieldLink RX0 115 "ExamGarden" "gradedCount" "I", Cond.fieldLink RX0 118 "ExamGarden" "gradeSum" "I", Cond.methodLink RX0 97 yX0_requireExam, Cond.instanceMethod yX0_requireExam, Cond.selects RX0 yX0_requireExam yX0_requireExam, Cond.code yX0_requireExam cX0_requireExam 2 none, Cond.methodLink RX0 135 yX0_holdsExam, Cond.instanceMethod yX0_holdsExam, Cond.selects RX0 yX0_holdsExam yX0_holdsExam, Cond.code yX0_holdsExam cX0_holdsExam 2 (some .boolean), Cond.methodLink RX0 121 yX0_settleForksAfter, Cond.instanceMethod yX0_settleForksAfter, Cond.selects RX0 yX0_settleForksAfter yX0_settleForksAfter, Cond.code yX0_settleForksAfter cX0_settleForksAfter 3 none, Cond.methodLink RL 119 yX1_grade, Cond.instanceMethod yX1_grade, Cond.selects RX1 yX1_grade yX1_grade, Cond.code yX1_grade cX1_grade 3 (some .int), Cond.methodLink RX1 99 yX1_isExamAt, Cond.instanceMethod yX1_isExamAt, Cond.selects RX1 yX1_isExamAt yX1_isExamAt, Cond.code yX1_isExamAt cX1_isExamAt 2 (some .boolean)]
def wsL_law0_r8 : List Cond := [Cond.methodLink RX1 102 yX1_gradedNow, Cond.instanceMethod yX1_gradedNow, Cond.selects RX1 yX1_gradedNow yX1_gradedNow, Cond.code yX1_gradedNow cX1_gradedNow 3 (some .int), Cond.methodLink RL 120 yL_weigh, Cond.static yL_weigh, Cond.codeWith yL_weigh cL_weigh 5 (some .int) [(0, 10, 13, 21), (0, 10, 17, 13)], Cond.methodLink RL 26 yX0_weigh, Cond.instanceMethod yX0_weigh, Cond.selects RX0 yX0_weigh yX0_weigh, Cond.code yX0_weigh cX0_weigh 4 (some .int), Cond.methodLink RX0 124 yX0_requireFork, Cond.instanceMethod yX0_requireFork, Cond.selects RX0 yX0_requireFork yX0_requireFork, Cond.code yX0_requireFork cX0_requireFork 2 none, Cond.methodLink RL 122 yX1_weigh, Cond.instanceMethod yX1_weigh, Cond.selects RX1 yX1_weigh yX1_weigh, Cond.code yX1_weigh cX1_weigh 4 (some .int), Cond.methodLink RX1 106 yX1_isForkAt, Cond.instanceMethod yX1_isForkAt, Cond.selects RX1 yX1_isForkAt yX1_isForkAt, Cond.code yX1_isForkAt cX1_isForkAt 2 (some .boolean), Cond.methodLink RL 123 yL_enroll]
def wsL_law0_r9 : List Cond := [Cond.static yL_enroll, Cond.codeWith yL_enroll cL_enroll 4 (some .int) [(0, 9, 12, 21), (0, 9, 15, 15)], Cond.methodLink RL 29 yX0_enroll, Cond.instanceMethod yX0_enroll, Cond.selects RX0 yX0_enroll yX0_enroll, Cond.code yX0_enroll cX0_enroll 3 (some .int), Cond.fieldLink RX0 127 "ExamGarden" "studentCount" "I", Cond.methodLink RL 126 yX1_enroll, Cond.instanceMethod yX1_enroll, Cond.selects RX1 yX1_enroll yX1_enroll, Cond.code yX1_enroll cX1_enroll 2 (some .int), Cond.fieldLink RX1 57 "ExamGardenModel" "students" "I", Cond.methodLink RL 127 yL_turn, Cond.static yL_turn, Cond.codeWith yL_turn cL_turn 5 (some .int) [(0, 10, 13, 21), (0, 10, 17, 15)], Cond.methodLink RL 33 yX0_turn, Cond.instanceMethod yX0_turn, Cond.selects RX0 yX0_turn yX0_turn, Cond.code yX0_turn cX0_turn 3 (some .int), Cond.methodLink RX0 132 yX0_requireStudent, Cond.instanceMethod yX0_requireStudent, Cond.selects RX0 yX0_requireStudent yX0_requireStudent, Cond.code yX0_requireStudent cX0_requireStudent 2 none, Cond.methodLink RX0 140 yX0_walk]
def wsL_law0_r10 : List Cond := [Cond.instanceMethod yX0_walk, Cond.selects RX0 yX0_walk yX0_walk, Cond.code yX0_walk cX0_walk 5 none, Cond.methodLink RX0 163 yX0_pathFrom, Cond.instanceMethod yX0_pathFrom, Cond.selects RX0 yX0_pathFrom yX0_pathFrom, Cond.code yX0_pathFrom cX0_pathFrom 3 (some .int), Cond.methodLink RL 130 yX1_turn, Cond.instanceMethod yX1_turn, Cond.selects RX1 yX1_turn yX1_turn, Cond.code yX1_turn cX1_turn 4 (some .int), Cond.methodLink RX1 109 yX1_isStudent, Cond.instanceMethod yX1_isStudent, Cond.selects RX1 yX1_isStudent yX1_isStudent, Cond.code yX1_isStudent cX1_isStudent 2 (some .boolean), Cond.methodLink RX1 112 yX1_go, Cond.instanceMethod yX1_go, Cond.selects RX1 yX1_go yX1_go, Cond.code yX1_go cX1_go 3 none, Cond.methodLink RL 131 yL_goBack, Cond.static yL_goBack, Cond.codeWith yL_goBack cL_goBack 4 (some .int) [(0, 9, 12, 21), (0, 9, 15, 15)], Cond.methodLink RL 37 yX0_goBack, Cond.instanceMethod yX0_goBack]
def wsL_law0_r11 : List Cond := [Cond.selects RX0 yX0_goBack yX0_goBack, Cond.code yX0_goBack cX0_goBack 4 (some .int), Cond.methodLink RX0 146 yX0_passedFork, Cond.instanceMethod yX0_passedFork, Cond.selects RX0 yX0_passedFork yX0_passedFork, Cond.code yX0_passedFork cX0_passedFork 3 (some .int), Cond.methodLink RL 133 yX1_goBack, Cond.instanceMethod yX1_goBack, Cond.selects RX1 yX1_goBack yX1_goBack, Cond.code yX1_goBack cX1_goBack 2 (some .int), Cond.methodLink RL 134 yL_follow, Cond.static yL_follow, Cond.codeWith yL_follow cL_follow 4 (some .int) [(0, 9, 12, 21)], Cond.methodLink RL 40 yX0_follow, Cond.instanceMethod yX0_follow, Cond.selects RX0 yX0_follow yX0_follow, Cond.code yX0_follow cX0_follow 3 (some .int), Cond.methodLink RX0 150 yX0_plansRight, Cond.instanceMethod yX0_plansRight, Cond.selects RX0 yX0_plansRight yX0_plansRight, Cond.code yX0_plansRight cX0_plansRight 2 (some .boolean), Cond.methodLink RX0 159 yX0_riskOfPath, Cond.instanceMethod yX0_riskOfPath, Cond.selects RX0 yX0_riskOfPath yX0_riskOfPath]
def wsL_law0_r12 : List Cond := [Cond.code yX0_riskOfPath cX0_riskOfPath 5 (some .int), Cond.methodLink RL 136 yX1_follow, Cond.instanceMethod yX1_follow, Cond.selects RX1 yX1_follow yX1_follow, Cond.code yX1_follow cX1_follow 3 (some .int), Cond.methodLink RX1 116 yX1_table, Cond.instanceMethod yX1_table, Cond.selects RX1 yX1_table yX1_table, Cond.code yX1_table cX1_table 3 none, Cond.methodLink RX1 60 Lib.Math.max.name, Cond.methodLink RX1 73 yX1_planned, Cond.instanceMethod yX1_planned, Cond.selects RX1 yX1_planned yX1_planned, Cond.code yX1_planned cX1_planned 2 (some .int), Cond.methodLink RX1 70 yX1_turnsRight, Cond.instanceMethod yX1_turnsRight, Cond.selects RX1 yX1_turnsRight yX1_turnsRight, Cond.code yX1_turnsRight cX1_turnsRight 2 (some .boolean), Cond.methodLink RX1 66 yX1_riskOf, Cond.instanceMethod yX1_riskOf, Cond.selects RX1 yX1_riskOf yX1_riskOf, Cond.code yX1_riskOf cX1_riskOf 5 (some .int), Cond.methodLink RL 137 yX0_places, Cond.instanceMethod yX0_places]
def wsL_law0_r13 : List Cond := [Cond.selects RX0 yX0_places yX0_places, Cond.code yX0_places cX0_places 1 (some .int), Cond.methodLink RL 140 yX1_places, Cond.instanceMethod yX1_places, Cond.selects RX1 yX1_places yX1_places, Cond.code yX1_places cX1_places 1 (some .int), Cond.methodLink RX1 119 yX1_ok, Cond.instanceMethod yX1_ok, Cond.selects RX1 yX1_ok yX1_ok, Cond.code yX1_ok cX1_ok 2 (some .int), Cond.methodLink RL 141 yX0_exams, Cond.instanceMethod yX0_exams, Cond.selects RX0 yX0_exams yX0_exams, Cond.code yX0_exams cX0_exams 1 (some .int), Cond.methodLink RX0 153 yJ13_bitCount_95d88, Cond.static yJ13_bitCount_95d88, Cond.initialized RJ13, Cond.code yJ13_bitCount_95d88 cJ13_bitCount_95d88 2 (some .int), Cond.constantLong RJ13 314 (6148914691236517205), Cond.constantLong RJ13 316 (3689348814741910323), Cond.constantLong RJ13 318 (1085102592571150095), Cond.methodLink RL 144 yX1_exams, Cond.instanceMethod yX1_exams, Cond.selects RX1 yX1_exams yX1_exams]
def wsL_law0_r14 : List Cond := [Cond.code yX1_exams cX1_exams 1 (some .int), Cond.methodLink RX1 122 yX1_examsNow, Cond.instanceMethod yX1_examsNow, Cond.selects RX1 yX1_examsNow yX1_examsNow, Cond.code yX1_examsNow cX1_examsNow 3 (some .int), Cond.methodLink RL 145 yX0_graded, Cond.instanceMethod yX0_graded, Cond.selects RX0 yX0_graded yX0_graded, Cond.code yX0_graded cX0_graded 1 (some .int), Cond.methodLink RL 148 yX1_graded, Cond.instanceMethod yX1_graded, Cond.selects RX1 yX1_graded yX1_graded, Cond.code yX1_graded cX1_graded 1 (some .int), Cond.methodLink RL 149 yX0_students, Cond.instanceMethod yX0_students, Cond.selects RX0 yX0_students yX0_students, Cond.code yX0_students cX0_students 1 (some .int), Cond.methodLink RL 152 yX1_students, Cond.instanceMethod yX1_students, Cond.selects RX1 yX1_students yX1_students, Cond.code yX1_students cX1_students 1 (some .int), Cond.methodLink RL 153 yX0_atExams, Cond.instanceMethod yX0_atExams, Cond.selects RX0 yX0_atExams yX0_atExams]
def wsL_law0_r15 : List Cond := [Cond.code yX0_atExams cX0_atExams 3 (some .int), Cond.methodLink RL 156 yX1_atExams, Cond.instanceMethod yX1_atExams, Cond.selects RX1 yX1_atExams yX1_atExams, Cond.code yX1_atExams cX1_atExams 1 (some .int), Cond.methodLink RX1 125 yX1_atEnds, Cond.instanceMethod yX1_atEnds, Cond.selects RX1 yX1_atEnds yX1_atEnds, Cond.code yX1_atEnds cX1_atEnds 3 (some .int), Cond.methodLink RL 157 yL_isExam, Cond.static yL_isExam, Cond.codeWith yL_isExam cL_isExam 4 (some .int) [(0, 16, 19, 21)], Cond.methodLink RL 43 yX0_isExam, Cond.instanceMethod yX0_isExam, Cond.selects RX0 yX0_isExam yX0_isExam, Cond.code yX0_isExam cX0_isExam 2 (some .boolean), Cond.methodLink RL 159 yX1_isExam, Cond.instanceMethod yX1_isExam, Cond.selects RX1 yX1_isExam yX1_isExam, Cond.code yX1_isExam cX1_isExam 2 (some .boolean), Cond.methodLink RX1 128 yX1_isNot, Cond.instanceMethod yX1_isNot, Cond.selects RX1 yX1_isNot yX1_isNot, Cond.code yX1_isNot cX1_isNot 2 (some .boolean)]
def wsL_law0_r16 : List Cond := [Cond.methodLink RL 160 yL_isGraded, Cond.static yL_isGraded, Cond.codeWith yL_isGraded cL_isGraded 4 (some .int) [(0, 16, 19, 21)], Cond.methodLink RL 47 yX0_isGraded, Cond.instanceMethod yX0_isGraded, Cond.selects RX0 yX0_isGraded yX0_isGraded, Cond.code yX0_isGraded cX0_isGraded 2 (some .boolean), Cond.methodLink RL 162 yX1_isGraded, Cond.instanceMethod yX1_isGraded, Cond.selects RX1 yX1_isGraded yX1_isGraded, Cond.code yX1_isGraded cX1_isGraded 2 (some .boolean), Cond.methodLink RL 163 yL_gradeOf, Cond.static yL_gradeOf, Cond.codeWith yL_gradeOf cL_gradeOf 4 (some .int) [(0, 9, 12, 21)], Cond.methodLink RL 50 yX0_gradeOf, Cond.instanceMethod yX0_gradeOf, Cond.selects RX0 yX0_gradeOf yX0_gradeOf, Cond.code yX0_gradeOf cX0_gradeOf 2 (some .int), Cond.methodLink RL 165 yX1_gradeOf, Cond.instanceMethod yX1_gradeOf, Cond.selects RX1 yX1_gradeOf yX1_gradeOf, Cond.code yX1_gradeOf cX1_gradeOf 2 (some .int), Cond.methodLink RL 166 yL_leftOf, Cond.static yL_leftOf]
def wsL_law0_r17 : List Cond := [Cond.codeWith yL_leftOf cL_leftOf 4 (some .int) [(0, 9, 12, 21)], Cond.methodLink RL 53 yX0_leftOf, Cond.instanceMethod yX0_leftOf, Cond.selects RX0 yX0_leftOf yX0_leftOf, Cond.code yX0_leftOf cX0_leftOf 2 (some .int), Cond.methodLink RL 168 yX1_leftOf, Cond.instanceMethod yX1_leftOf, Cond.selects RX1 yX1_leftOf yX1_leftOf, Cond.code yX1_leftOf cX1_leftOf 2 (some .int), Cond.methodLink RX1 131 yX1_ofFork, Cond.instanceMethod yX1_ofFork, Cond.selects RX1 yX1_ofFork yX1_ofFork, Cond.code yX1_ofFork cX1_ofFork 3 (some .int), Cond.methodLink RL 169 yL_rightOf, Cond.static yL_rightOf, Cond.codeWith yL_rightOf cL_rightOf 4 (some .int) [(0, 9, 12, 21)], Cond.methodLink RL 56 yX0_rightOf, Cond.instanceMethod yX0_rightOf, Cond.selects RX0 yX0_rightOf yX0_rightOf, Cond.code yX0_rightOf cX0_rightOf 2 (some .int), Cond.methodLink RL 171 yX1_rightOf, Cond.instanceMethod yX1_rightOf, Cond.selects RX1 yX1_rightOf yX1_rightOf, Cond.code yX1_rightOf cX1_rightOf 2 (some .int)]
def wsL_law0_r18 : List Cond := [Cond.methodLink RL 172 yL_weightOf, Cond.static yL_weightOf, Cond.codeWith yL_weightOf cL_weightOf 4 (some .int) [(0, 9, 12, 21)], Cond.methodLink RL 59 yX0_weightOf, Cond.instanceMethod yX0_weightOf, Cond.selects RX0 yX0_weightOf yX0_weightOf, Cond.code yX0_weightOf cX0_weightOf 2 (some .int), Cond.methodLink RL 174 yX1_weightOf, Cond.instanceMethod yX1_weightOf, Cond.selects RX1 yX1_weightOf yX1_weightOf, Cond.code yX1_weightOf cX1_weightOf 2 (some .int), Cond.methodLink RL 175 yL_placeOf, Cond.static yL_placeOf, Cond.codeWith yL_placeOf cL_placeOf 4 (some .int) [(0, 9, 12, 21)], Cond.methodLink RL 62 yX0_placeOf, Cond.instanceMethod yX0_placeOf, Cond.selects RX0 yX0_placeOf yX0_placeOf, Cond.code yX0_placeOf cX0_placeOf 2 (some .int), Cond.methodLink RL 177 yX1_placeOf, Cond.instanceMethod yX1_placeOf, Cond.selects RX1 yX1_placeOf yX1_placeOf, Cond.code yX1_placeOf cX1_placeOf 2 (some .int), Cond.methodLink RX1 135 yX1_ofStudent, Cond.instanceMethod yX1_ofStudent]
def wsL_law0_r19 : List Cond := [Cond.selects RX1 yX1_ofStudent yX1_ofStudent, Cond.code yX1_ofStudent cX1_ofStudent 3 (some .int), Cond.methodLink RL 178 yL_passedBy, Cond.static yL_passedBy, Cond.codeWith yL_passedBy cL_passedBy 4 (some .int) [(0, 9, 12, 21)], Cond.methodLink RL 65 yX0_passedBy, Cond.instanceMethod yX0_passedBy, Cond.selects RX0 yX0_passedBy yX0_passedBy, Cond.code yX0_passedBy cX0_passedBy 2 (some .int), Cond.methodLink RL 180 yX1_passedBy, Cond.instanceMethod yX1_passedBy, Cond.selects RX1 yX1_passedBy yX1_passedBy, Cond.code yX1_passedBy cX1_passedBy 2 (some .int), Cond.methodLink RL 181 yL_sureGrade, Cond.static yL_sureGrade, Cond.codeWith yL_sureGrade cL_sureGrade 4 (some .int) [(0, 9, 12, 21)], Cond.methodLink RL 68 yX0_sureGrade, Cond.instanceMethod yX0_sureGrade, Cond.selects RX0 yX0_sureGrade yX0_sureGrade, Cond.code yX0_sureGrade cX0_sureGrade 2 (some .int), Cond.methodLink RL 183 yX1_sureGrade, Cond.instanceMethod yX1_sureGrade, Cond.selects RX1 yX1_sureGrade yX1_sureGrade, Cond.code yX1_sureGrade cX1_sureGrade 2 (some .int)]
def wsL_law0_r20 : List Cond := [Cond.methodLink RX1 138 yX1_ofPlace, Cond.instanceMethod yX1_ofPlace, Cond.selects RX1 yX1_ofPlace yX1_ofPlace, Cond.code yX1_ofPlace cX1_ofPlace 3 (some .int), Cond.methodLink RL 184 yL_hope, Cond.static yL_hope, Cond.codeWith yL_hope cL_hope 4 (some .int) [(0, 9, 12, 21)], Cond.methodLink RL 71 yX0_hope, Cond.instanceMethod yX0_hope, Cond.selects RX0 yX0_hope yX0_hope, Cond.code yX0_hope cX0_hope 2 (some .int), Cond.methodLink RL 186 yX1_hope, Cond.instanceMethod yX1_hope, Cond.selects RX1 yX1_hope yX1_hope, Cond.code yX1_hope cX1_hope 2 (some .int), Cond.methodLink RL 187 yL_reaches, Cond.static yL_reaches, Cond.codeWith yL_reaches cL_reaches 5 (some .int) [(0, 17, 20, 21)], Cond.methodLink RL 74 yX0_reaches, Cond.instanceMethod yX0_reaches, Cond.selects RX0 yX0_reaches yX0_reaches, Cond.code yX0_reaches cX0_reaches 3 (some .boolean), Cond.methodLink RL 189 yX1_reaches, Cond.instanceMethod yX1_reaches]
def wsL_law0_r21 : List Cond := [Cond.selects RX1 yX1_reaches yX1_reaches, Cond.code yX1_reaches cX1_reaches 3 (some .boolean), Cond.methodLink RX1 77 yX1_has, Cond.instanceMethod yX1_has, Cond.selects RX1 yX1_has yX1_has, Cond.code yX1_has cX1_has 3 (some .boolean), Cond.methodLink RL 190 yL_examsFrom, Cond.static yL_examsFrom, Cond.codeWith yL_examsFrom cL_examsFrom 4 (some .int) [(0, 9, 12, 21)], Cond.methodLink RL 78 yX0_examsFrom, Cond.instanceMethod yX0_examsFrom, Cond.selects RX0 yX0_examsFrom yX0_examsFrom, Cond.code yX0_examsFrom cX0_examsFrom 2 (some .int), Cond.methodLink RL 192 yX1_examsFrom, Cond.instanceMethod yX1_examsFrom, Cond.selects RX1 yX1_examsFrom yX1_examsFrom, Cond.code yX1_examsFrom cX1_examsFrom 2 (some .int), Cond.methodLink RX1 141 yX1_examsOf, Cond.instanceMethod yX1_examsOf, Cond.selects RX1 yX1_examsOf yX1_examsOf, Cond.code yX1_examsOf cX1_examsOf 4 (some .int), Cond.methodLink RL 193 yL_risk, Cond.static yL_risk, Cond.codeWith yL_risk cL_risk 5 (some .int) [(0, 10, 13, 21)]]
def wsL_law0_r22 : List Cond := [Cond.methodLink RL 81 yX0_risk, Cond.instanceMethod yX0_risk, Cond.selects RX0 yX0_risk yX0_risk, Cond.code yX0_risk cX0_risk 3 (some .int), Cond.methodLink RL 195 yX1_risk, Cond.instanceMethod yX1_risk, Cond.selects RX1 yX1_risk yX1_risk, Cond.code yX1_risk cX1_risk 3 (some .int), Cond.methodLink RL 196 yL_planTurnsRight, Cond.static yL_planTurnsRight, Cond.codeWith yL_planTurnsRight cL_planTurnsRight 4 (some .int) [(0, 16, 19, 21)], Cond.methodLink RL 84 yX0_planTurnsRight, Cond.instanceMethod yX0_planTurnsRight, Cond.selects RX0 yX0_planTurnsRight yX0_planTurnsRight, Cond.code yX0_planTurnsRight cX0_planTurnsRight 2 (some .boolean), Cond.methodLink RL 198 yX1_planTurnsRight, Cond.instanceMethod yX1_planTurnsRight, Cond.selects RX1 yX1_planTurnsRight yX1_planTurnsRight, Cond.code yX1_planTurnsRight cX1_planTurnsRight 2 (some .boolean), Cond.methodLink RL 199 yL_planLeadsTo, Cond.static yL_planLeadsTo, Cond.codeWith yL_planLeadsTo cL_planLeadsTo 4 (some .int) [(0, 9, 12, 21)], Cond.methodLink RL 87 yX0_planLeadsTo, Cond.instanceMethod yX0_planLeadsTo]
def wsL_law0_r23 : List Cond := [Cond.selects RX0 yX0_planLeadsTo yX0_planLeadsTo, Cond.code yX0_planLeadsTo cX0_planLeadsTo 4 (some .int), Cond.methodLink RL 201 yX1_planLeadsTo, Cond.instanceMethod yX1_planLeadsTo, Cond.selects RX1 yX1_planLeadsTo yX1_planLeadsTo, Cond.code yX1_planLeadsTo cX1_planLeadsTo 2 (some .int), Cond.methodLink RX1 144 yX1_leads, Cond.instanceMethod yX1_leads, Cond.selects RX1 yX1_leads yX1_leads, Cond.code yX1_leads cX1_leads 3 (some .int), Cond.methodLink RL 202 yX0_riskiestFork, Cond.instanceMethod yX0_riskiestFork, Cond.selects RX0 yX0_riskiestFork yX0_riskiestFork, Cond.code yX0_riskiestFork cX0_riskiestFork 4 (some .int), Cond.methodLink RX0 166 yX0_smallerRisk, Cond.instanceMethod yX0_smallerRisk, Cond.selects RX0 yX0_smallerRisk yX0_smallerRisk, Cond.code yX0_smallerRisk cX0_smallerRisk 2 (some .int), Cond.methodLink RX0 274 Lib.Math.min.name, Cond.static Lib.Math.min.name, Cond.code Lib.Math.min.name Lib.Math.min.code 2 (some .int), Cond.methodLink RL 205 yX1_riskiestFork, Cond.instanceMethod yX1_riskiestFork, Cond.selects RX1 yX1_riskiestFork yX1_riskiestFork]
def wsL_law0_r24 : List Cond := [Cond.code yX1_riskiestFork cX1_riskiestFork 1 (some .int), Cond.methodLink RX1 147 yX1_riskiest, Cond.instanceMethod yX1_riskiest, Cond.selects RX1 yX1_riskiest yX1_riskiest, Cond.code yX1_riskiest cX1_riskiest 5 (some .int), Cond.methodLink RX1 81 Lib.Math.min.name, Cond.methodLink RL 206 yL_hindsight, Cond.static yL_hindsight, Cond.codeWith yL_hindsight cL_hindsight 4 (some .int) [(0, 9, 12, 21)], Cond.methodLink RL 90 yX0_hindsight, Cond.instanceMethod yX0_hindsight, Cond.selects RX0 yX0_hindsight yX0_hindsight, Cond.code yX0_hindsight cX0_hindsight 2 (some .int), Cond.methodLink RL 208 yX1_hindsight, Cond.instanceMethod yX1_hindsight, Cond.selects RX1 yX1_hindsight yX1_hindsight, Cond.code yX1_hindsight cX1_hindsight 2 (some .int), Cond.methodLink RX1 84 yX1_behind, Cond.instanceMethod yX1_behind, Cond.selects RX1 yX1_behind yX1_behind, Cond.code yX1_behind cX1_behind 4 (some .int), Cond.methodLink RL 209 yL_regretOf, Cond.static yL_regretOf, Cond.codeWith yL_regretOf cL_regretOf 4 (some .int) [(0, 9, 12, 21), (0, 9, 15, 15)]]
def wsL_law0_r25 : List Cond := [Cond.methodLink RL 93 yX0_regretOf, Cond.instanceMethod yX0_regretOf, Cond.selects RX0 yX0_regretOf yX0_regretOf, Cond.code yX0_regretOf cX0_regretOf 2 (some .int), Cond.methodLink RX0 170 yX0_requireGraded, Cond.instanceMethod yX0_requireGraded, Cond.selects RX0 yX0_requireGraded yX0_requireGraded, Cond.code yX0_requireGraded cX0_requireGraded 2 none, Cond.methodLink RX0 173 yX0_regretOfAll, Cond.instanceMethod yX0_regretOfAll, Cond.selects RX0 yX0_regretOfAll yX0_regretOfAll, Cond.code yX0_regretOfAll cX0_regretOfAll 5 (some .int), Cond.methodLink RX0 176 yX0_regretOfStep, Cond.instanceMethod yX0_regretOfStep, Cond.selects RX0 yX0_regretOfStep yX0_regretOfStep, Cond.code yX0_regretOfStep cX0_regretOfStep 5 (some .int), Cond.methodLink RL 211 yX1_regretOf, Cond.instanceMethod yX1_regretOf, Cond.selects RX1 yX1_regretOf yX1_regretOf, Cond.code yX1_regretOf cX1_regretOf 2 (some .int), Cond.methodLink RX1 90 yX1_isKnown, Cond.instanceMethod yX1_isKnown, Cond.selects RX1 yX1_isKnown yX1_isKnown, Cond.code yX1_isKnown cX1_isKnown 2 (some .boolean)]
def wsL_law0_r26 : List Cond := [Cond.methodLink RX1 93 yX1_regrets, Cond.instanceMethod yX1_regrets, Cond.selects RX1 yX1_regrets yX1_regrets, Cond.code yX1_regrets cX1_regrets 4 (some .int), Cond.methodLink RX1 87 yX1_regret, Cond.instanceMethod yX1_regret, Cond.selects RX1 yX1_regret yX1_regret, Cond.code yX1_regret cX1_regret 4 (some .int), Cond.methodLink RL 212 yL_worstFork, Cond.static yL_worstFork, Cond.codeWith yL_worstFork cL_worstFork 4 (some .int) [(0, 9, 12, 21), (0, 9, 15, 15)], Cond.methodLink RL 96 yX0_worstFork, Cond.instanceMethod yX0_worstFork, Cond.selects RX0 yX0_worstFork yX0_worstFork, Cond.code yX0_worstFork cX0_worstFork 7 (some .int), Cond.methodLink RL 214 yX1_worstFork, Cond.instanceMethod yX1_worstFork, Cond.selects RX1 yX1_worstFork yX1_worstFork, Cond.code yX1_worstFork cX1_worstFork 2 (some .int), Cond.methodLink RX1 150 yX1_worst, Cond.instanceMethod yX1_worst, Cond.selects RX1 yX1_worst yX1_worst, Cond.code yX1_worst cX1_worst 5 (some .int), Cond.methodLink RL 215 yX0_allRegret]
def wsL_law0_r27 : List Cond := [Cond.instanceMethod yX0_allRegret, Cond.selects RX0 yX0_allRegret yX0_allRegret, Cond.code yX0_allRegret cX0_allRegret 3 (some .int), Cond.methodLink RL 218 yX1_allRegret, Cond.instanceMethod yX1_allRegret, Cond.selects RX1 yX1_allRegret yX1_allRegret, Cond.code yX1_allRegret cX1_allRegret 1 (some .int), Cond.methodLink RX1 153 yX1_allRegrets, Cond.instanceMethod yX1_allRegrets, Cond.selects RX1 yX1_allRegrets yX1_allRegrets, Cond.code yX1_allRegrets cX1_allRegrets 3 (some .int), Cond.methodLink RL 219 yX0_meanGrade, Cond.instanceMethod yX0_meanGrade, Cond.selects RX0 yX0_meanGrade yX0_meanGrade, Cond.code yX0_meanGrade cX0_meanGrade 1 (some .double), Cond.methodLink RL 223 yX1_meanGrade, Cond.instanceMethod yX1_meanGrade, Cond.selects RX1 yX1_meanGrade yX1_meanGrade, Cond.code yX1_meanGrade cX1_meanGrade 3 (some .double), Cond.methodLink RL 224 yX0_digest, Cond.instanceMethod yX0_digest, Cond.selects RX0 yX0_digest yX0_digest, Cond.code yX0_digest cX0_digest 4 (some .long), Cond.constantLong RX0 179 (1039)]
def wsL_law0_r28 : List Cond := [Cond.methodLink RX0 181 yX0_places, Cond.methodLink RX0 185 yX0_mix, Cond.static yX0_mix, Cond.code yX0_mix cX0_mix 3 (some .long), Cond.constantLong RX0 246 (31), Cond.methodLink RX0 189 yX0_exams, Cond.methodLink RX0 192 yX0_graded, Cond.methodLink RX0 195 yX0_students, Cond.methodLink RX0 198 yX0_atExams, Cond.methodLink RX0 201 yX0_riskiestFork, Cond.methodLink RX0 204 yX0_allRegret, Cond.methodLink RX0 207 yX0_mixPlace, Cond.instanceMethod yX0_mixPlace, Cond.selects RX0 yX0_mixPlace yX0_mixPlace, Cond.code yX0_mixPlace cX0_mixPlace 6 (some .long), Cond.methodLink RX0 216 yX0_isExam, Cond.methodLink RX0 219 yX0_sureGrade, Cond.methodLink RX0 222 yX0_hope, Cond.methodLink RX0 225 yX0_examsFrom, Cond.methodLink RX0 228 yX0_planLeadsTo, Cond.methodLink RX0 231 yX0_gradeOf, Cond.methodLink RX0 234 yX0_leftOf, Cond.methodLink RX0 237 yX0_rightOf, Cond.methodLink RX0 240 yX0_weightOf]
def wsL_law0_r29 : List Cond := [Cond.methodLink RX0 243 yX0_hindsight, Cond.methodLink RX0 210 yX0_placeOf, Cond.methodLink RX0 213 yX0_passedBy, Cond.methodLink RL 228 yX1_digest, Cond.instanceMethod yX1_digest, Cond.selects RX1 yX1_digest yX1_digest, Cond.code yX1_digest cX1_digest 10 (some .long), Cond.constantLong RX1 156 (1039), Cond.constantLong RX1 158 (31)]
def wsL_law0 : List Cond := (wsL_law0_r1 ++ (wsL_law0_r2 ++ (wsL_law0_r3 ++ (wsL_law0_r4 ++ (wsL_law0_r5 ++ (wsL_law0_r6 ++ (wsL_law0_r7 ++ (wsL_law0_r8 ++ (wsL_law0_r9 ++ (wsL_law0_r10 ++ (wsL_law0_r11 ++ (wsL_law0_r12 ++ (wsL_law0_r13 ++ (wsL_law0_r14 ++ (wsL_law0_r15 ++ (wsL_law0_r16 ++ (wsL_law0_r17 ++ (wsL_law0_r18 ++ (wsL_law0_r19 ++ (wsL_law0_r20 ++ (wsL_law0_r21 ++ (wsL_law0_r22 ++ (wsL_law0_r23 ++ (wsL_law0_r24 ++ (wsL_law0_r25 ++ (wsL_law0_r26 ++ (wsL_law0_r27 ++ (wsL_law0_r28 ++ wsL_law0_r29)))))))))))))))))))))))))))) ++ wsX00 ++ wsX10 ++ ([] : List Cond)
def wsL_law : List Cond := wsL_law0 ++ (vx_atS RX0 54 "java/lang/IllegalArgumentException" ["java/lang/RuntimeException", "java/lang/Exception"]).filter goodWord ++ (vx_atS RX0 114 "java/lang/IllegalStateException" ["java/lang/RuntimeException", "java/lang/Exception"]).filter goodWord ++ (vx_atS RX0 254 "java/lang/IndexOutOfBoundsException" ["java/lang/RuntimeException", "java/lang/Exception"]).filter goodWord
end
section
theorem inJ0 : ∀ w ∈ wsJ00, w ∈ lw_tbl := by decide +kernel
theorem dX0_init_0 : decode cX0_init 0 = .ok (.aload_n 0, 1) := by decide +kernel
theorem dX0_init_1 : decode cX0_init 1 = .ok (.invokespecial 1, 3) := by decide +kernel
theorem dX0_init_4 : decode cX0_init 4 = .ok (.aload_n 0, 1) := by decide +kernel
theorem dX0_init_5 : decode cX0_init 5 = .ok (.bipush 40, 2) := by decide +kernel
theorem dX0_init_7 : decode cX0_init 7 = .ok (.newarray .int, 2) := by decide +kernel
theorem dX0_init_9 : decode cX0_init 9 = .ok (.putfield 9, 3) := by decide +kernel
theorem dX0_init_12 : decode cX0_init 12 = .ok (.aload_n 0, 1) := by decide +kernel
theorem dX0_init_13 : decode cX0_init 13 = .ok (.bipush 40, 2) := by decide +kernel
theorem dX0_init_15 : decode cX0_init 15 = .ok (.newarray .int, 2) := by decide +kernel
theorem dX0_init_17 : decode cX0_init 17 = .ok (.putfield 13, 3) := by decide +kernel
theorem dX0_init_20 : decode cX0_init 20 = .ok (.aload_n 0, 1) := by decide +kernel
theorem dX0_init_21 : decode cX0_init 21 = .ok (.bipush 40, 2) := by decide +kernel
theorem dX0_init_23 : decode cX0_init 23 = .ok (.newarray .int, 2) := by decide +kernel
theorem dX0_init_25 : decode cX0_init 25 = .ok (.putfield 16, 3) := by decide +kernel
theorem dX0_init_28 : decode cX0_init 28 = .ok (.aload_n 0, 1) := by decide +kernel
theorem dX0_init_29 : decode cX0_init 29 = .ok (.bipush 40, 2) := by decide +kernel
theorem dX0_init_31 : decode cX0_init 31 = .ok (.newarray .int, 2) := by decide +kernel
theorem dX0_init_33 : decode cX0_init 33 = .ok (.putfield 19, 3) := by decide +kernel
theorem dX0_init_36 : decode cX0_init 36 = .ok (.aload_n 0, 1) := by decide +kernel
theorem dX0_init_37 : decode cX0_init 37 = .ok (.bipush 40, 2) := by decide +kernel
theorem dX0_init_39 : decode cX0_init 39 = .ok (.newarray .int, 2) := by decide +kernel
theorem dX0_init_41 : decode cX0_init 41 = .ok (.putfield 22, 3) := by decide +kernel
theorem dX0_init_44 : decode cX0_init 44 = .ok (.aload_n 0, 1) := by decide +kernel
theorem dX0_init_45 : decode cX0_init 45 = .ok (.bipush 40, 2) := by decide +kernel
theorem dX0_init_47 : decode cX0_init 47 = .ok (.newarray .int, 2) := by decide +kernel
theorem dX0_init_49 : decode cX0_init 49 = .ok (.putfield 25, 3) := by decide +kernel
theorem dX0_init_52 : decode cX0_init 52 = .ok (.aload_n 0, 1) := by decide +kernel
theorem dX0_init_53 : decode cX0_init 53 = .ok (.bipush 40, 2) := by decide +kernel
theorem dX0_init_55 : decode cX0_init 55 = .ok (.newarray .int, 2) := by decide +kernel
theorem dX0_init_57 : decode cX0_init 57 = .ok (.putfield 28, 3) := by decide +kernel
theorem dX0_init_60 : decode cX0_init 60 = .ok (.aload_n 0, 1) := by decide +kernel
theorem dX0_init_61 : decode cX0_init 61 = .ok (.bipush 40, 2) := by decide +kernel
theorem dX0_init_63 : decode cX0_init 63 = .ok (.newarray .int, 2) := by decide +kernel
theorem dX0_init_65 : decode cX0_init 65 = .ok (.putfield 31, 3) := by decide +kernel
theorem dX0_init_68 : decode cX0_init 68 = .ok (.aload_n 0, 1) := by decide +kernel
theorem dX0_init_69 : decode cX0_init 69 = .ok (.bipush 40, 2) := by decide +kernel
theorem dX0_init_71 : decode cX0_init 71 = .ok (.newarray .int, 2) := by decide +kernel
theorem dX0_init_73 : decode cX0_init 73 = .ok (.putfield 34, 3) := by decide +kernel
theorem dX0_init_76 : decode cX0_init 76 = .ok (.aload_n 0, 1) := by decide +kernel
theorem dX0_init_77 : decode cX0_init 77 = .ok (.bipush 40, 2) := by decide +kernel
theorem dX0_init_79 : decode cX0_init 79 = .ok (.newarray .long, 2) := by decide +kernel
theorem dX0_init_81 : decode cX0_init 81 = .ok (.putfield 37, 3) := by decide +kernel
theorem dX0_init_84 : decode cX0_init 84 = .ok (.aload_n 0, 1) := by decide +kernel
theorem dX0_init_85 : decode cX0_init 85 = .ok (.bipush 8, 2) := by decide +kernel
theorem dX0_init_87 : decode cX0_init 87 = .ok (.newarray .int, 2) := by decide +kernel
theorem dX0_init_89 : decode cX0_init 89 = .ok (.putfield 41, 3) := by decide +kernel
theorem dX0_init_92 : decode cX0_init 92 = .ok (.aload_n 0, 1) := by decide +kernel
theorem dX0_init_93 : decode cX0_init 93 = .ok (.bipush 8, 2) := by decide +kernel
theorem dX0_init_95 : decode cX0_init 95 = .ok (.newarray .int, 2) := by decide +kernel
theorem dX0_init_97 : decode cX0_init 97 = .ok (.putfield 44, 3) := by decide +kernel
theorem dX0_init_100 : decode cX0_init 100 = .ok (.aload_n 0, 1) := by decide +kernel
theorem dX0_init_101 : decode cX0_init 101 = .ok (.sipush 320, 3) := by decide +kernel
theorem dX0_init_104 : decode cX0_init 104 = .ok (.newarray .int, 2) := by decide +kernel
theorem dX0_init_106 : decode cX0_init 106 = .ok (.putfield 47, 3) := by decide +kernel
theorem dX0_init_109 : decode cX0_init 109 = .ok (.return_, 1) := by decide +kernel
set_option maxRecDepth 20000 in
theorem ggX0_addExam_X0_requireRoom : GoodIn wsX0_addExam wsX0_requireRoom := goodIn_ca (goodIn_r _ [13, 14, 15, 3, 39, 40, 41, 42, 43, 44, 45, 46, 47, 48, 49, 50, 51, 52, 53, 54, 55, 56] (by decide +kernel) (by decide +kernel)) (goodIn_sub (fun _ h => List.mem_cons_of_mem _ (List.mem_append_right _ h)) (by decide +kernel))
set_option maxRecDepth 20000 in
theorem gX0_addExam_X0_requireRoom : GoodIn wsX0_addExam (wsV RX0 57 RX0 yX0_requireRoom wsX0_requireRoom) := goodIn_app (goodIn_of _ (by decide +kernel)) ggX0_addExam_X0_requireRoom
set_option maxRecDepth 20000 in
theorem ggX0_addExam_X0_bitOf : GoodIn wsX0_addExam wsX0_bitOf := goodIn_r _ [18] (by decide +kernel) (by decide +kernel)
set_option maxRecDepth 20000 in
theorem gX0_addExam_X0_bitOf : GoodIn wsX0_addExam (va_wsS RX0 68 yX0_bitOf wsX0_bitOf) := goodIn_app (goodIn_of _ (by decide +kernel)) ggX0_addExam_X0_bitOf
set_option maxRecDepth 20000 in
theorem ggX0_addExam_X0_put : GoodIn wsX0_addExam wsX0_put := goodIn_r _ [21] (by decide +kernel) (by decide +kernel)
set_option maxRecDepth 20000 in
theorem gX0_addExam_X0_put : GoodIn wsX0_addExam (va_wsS RX0 72 yX0_put wsX0_put) := goodIn_app (goodIn_of _ (by decide +kernel)) ggX0_addExam_X0_put
set_option maxRecDepth 20000 in
theorem ggX0_addExam_X0_putBits : GoodIn wsX0_addExam wsX0_putBits := goodIn_r _ [24] (by decide +kernel) (by decide +kernel)
set_option maxRecDepth 20000 in
theorem gX0_addExam_X0_putBits : GoodIn wsX0_addExam (va_wsS RX0 76 yX0_putBits wsX0_putBits) := goodIn_app (goodIn_of _ (by decide +kernel)) ggX0_addExam_X0_putBits
set_option maxRecDepth 20000 in
theorem ggX0_addExam_X0_settleExam : GoodIn wsX0_addExam wsX0_settleExam := goodIn_r _ [28, 7, 29, 5, 30, 6, 31, 32, 33, 34, 12, 35, 36, 37, 38, 19, 20, 21, 39, 40, 41, 42, 43, 44, 45, 46, 47, 48, 49, 50, 51, 52, 53, 54, 55, 56] (by decide +kernel) (by decide +kernel)
set_option maxRecDepth 20000 in
theorem gX0_addExam_X0_settleExam : GoodIn wsX0_addExam (wsV RX0 80 RX0 yX0_settleExam wsX0_settleExam) := goodIn_app (goodIn_of _ (by decide +kernel)) ggX0_addExam_X0_settleExam
theorem dX0_addExam_0 : decode cX0_addExam 0 = .ok (.iload_n 1, 1) := by decide +kernel
theorem dX0_addExam_1 : decode cX0_addExam 1 = .ok (.ifCond .lt 14, 3) := by decide +kernel
theorem dX0_addExam_4 : decode cX0_addExam 4 = .ok (.iload_n 2, 1) := by decide +kernel
theorem dX0_addExam_5 : decode cX0_addExam 5 = .ok (.bipush 20, 2) := by decide +kernel
theorem dX0_addExam_7 : decode cX0_addExam 7 = .ok (.if_icmp .gt 8, 3) := by decide +kernel
theorem dX0_addExam_10 : decode cX0_addExam 10 = .ok (.iload_n 2, 1) := by decide +kernel
theorem dX0_addExam_11 : decode cX0_addExam 11 = .ok (.iload_n 1, 1) := by decide +kernel
theorem dX0_addExam_12 : decode cX0_addExam 12 = .ok (.if_icmp .ge 13, 3) := by decide +kernel
theorem dX0_addExam_15 : decode cX0_addExam 15 = .ok (.new 50, 3) := by decide +kernel
theorem dX0_addExam_18 : decode cX0_addExam 18 = .ok (.dup, 1) := by decide +kernel
theorem dX0_addExam_19 : decode cX0_addExam 19 = .ok (.ldc 52, 2) := by decide +kernel
theorem dX0_addExam_21 : decode cX0_addExam 21 = .ok (.invokespecial 54, 3) := by decide +kernel
theorem dX0_addExam_24 : decode cX0_addExam 24 = .ok (.athrow, 1) := by decide +kernel
theorem dX0_addExam_25 : decode cX0_addExam 25 = .ok (.aload_n 0, 1) := by decide +kernel
theorem dX0_addExam_26 : decode cX0_addExam 26 = .ok (.invokevirtual 57, 3) := by decide +kernel
theorem dX0_addExam_29 : decode cX0_addExam 29 = .ok (.aload_n 0, 1) := by decide +kernel
theorem dX0_addExam_30 : decode cX0_addExam 30 = .ok (.getfield 60, 3) := by decide +kernel
theorem dX0_addExam_33 : decode cX0_addExam 33 = .ok (.istore_n 3, 1) := by decide +kernel
theorem dX0_addExam_34 : decode cX0_addExam 34 = .ok (.aload_n 0, 1) := by decide +kernel
theorem dX0_addExam_35 : decode cX0_addExam 35 = .ok (.dup, 1) := by decide +kernel
theorem dX0_addExam_36 : decode cX0_addExam 36 = .ok (.getfield 64, 3) := by decide +kernel
theorem dX0_addExam_39 : decode cX0_addExam 39 = .ok (.iload_n 3, 1) := by decide +kernel
theorem dX0_addExam_40 : decode cX0_addExam 40 = .ok (.invokestatic 68, 3) := by decide +kernel
theorem dX0_addExam_43 : decode cX0_addExam 43 = .ok (.lor, 1) := by decide +kernel
theorem dX0_addExam_44 : decode cX0_addExam 44 = .ok (.putfield 64, 3) := by decide +kernel
theorem dX0_addExam_47 : decode cX0_addExam 47 = .ok (.aload_n 0, 1) := by decide +kernel
theorem dX0_addExam_48 : decode cX0_addExam 48 = .ok (.getfield 9, 3) := by decide +kernel
theorem dX0_addExam_51 : decode cX0_addExam 51 = .ok (.iload_n 3, 1) := by decide +kernel
theorem dX0_addExam_52 : decode cX0_addExam 52 = .ok (.iload_n 1, 1) := by decide +kernel
theorem dX0_addExam_53 : decode cX0_addExam 53 = .ok (.invokestatic 72, 3) := by decide +kernel
theorem dX0_addExam_56 : decode cX0_addExam 56 = .ok (.aload_n 0, 1) := by decide +kernel
theorem dX0_addExam_57 : decode cX0_addExam 57 = .ok (.getfield 13, 3) := by decide +kernel
theorem dX0_addExam_60 : decode cX0_addExam 60 = .ok (.iload_n 3, 1) := by decide +kernel
theorem dX0_addExam_61 : decode cX0_addExam 61 = .ok (.iload_n 2, 1) := by decide +kernel
theorem dX0_addExam_62 : decode cX0_addExam 62 = .ok (.invokestatic 72, 3) := by decide +kernel
theorem dX0_addExam_65 : decode cX0_addExam 65 = .ok (.aload_n 0, 1) := by decide +kernel
theorem dX0_addExam_66 : decode cX0_addExam 66 = .ok (.getfield 25, 3) := by decide +kernel
theorem dX0_addExam_69 : decode cX0_addExam 69 = .ok (.iload_n 3, 1) := by decide +kernel
theorem dX0_addExam_70 : decode cX0_addExam 70 = .ok (.iconst (-1), 1) := by decide +kernel
theorem dX0_addExam_71 : decode cX0_addExam 71 = .ok (.invokestatic 72, 3) := by decide +kernel
theorem dX0_addExam_74 : decode cX0_addExam 74 = .ok (.aload_n 0, 1) := by decide +kernel
theorem dX0_addExam_75 : decode cX0_addExam 75 = .ok (.getfield 37, 3) := by decide +kernel
theorem dX0_addExam_78 : decode cX0_addExam 78 = .ok (.iload_n 3, 1) := by decide +kernel
theorem dX0_addExam_79 : decode cX0_addExam 79 = .ok (.iload_n 3, 1) := by decide +kernel
theorem dX0_addExam_80 : decode cX0_addExam 80 = .ok (.invokestatic 68, 3) := by decide +kernel
theorem dX0_addExam_83 : decode cX0_addExam 83 = .ok (.invokestatic 76, 3) := by decide +kernel
theorem dX0_addExam_86 : decode cX0_addExam 86 = .ok (.aload_n 0, 1) := by decide +kernel
theorem dX0_addExam_87 : decode cX0_addExam 87 = .ok (.iload_n 3, 1) := by decide +kernel
theorem dX0_addExam_88 : decode cX0_addExam 88 = .ok (.invokevirtual 80, 3) := by decide +kernel
theorem dX0_addExam_91 : decode cX0_addExam 91 = .ok (.aload_n 0, 1) := by decide +kernel
theorem dX0_addExam_92 : decode cX0_addExam 92 = .ok (.dup, 1) := by decide +kernel
theorem dX0_addExam_93 : decode cX0_addExam 93 = .ok (.getfield 60, 3) := by decide +kernel
theorem dX0_addExam_96 : decode cX0_addExam 96 = .ok (.iconst 1, 1) := by decide +kernel
theorem dX0_addExam_97 : decode cX0_addExam 97 = .ok (.iadd, 1) := by decide +kernel
theorem dX0_addExam_98 : decode cX0_addExam 98 = .ok (.putfield 60, 3) := by decide +kernel
theorem dX0_addExam_101 : decode cX0_addExam 101 = .ok (.iload_n 3, 1) := by decide +kernel
theorem dX0_addExam_102 : decode cX0_addExam 102 = .ok (.ireturn, 1) := by decide +kernel
set_option maxRecDepth 20000 in
theorem ggX0_addFork_X0_requirePlace : GoodIn wsX0_addFork wsX0_requirePlace := goodIn_ca (goodIn_r _ [11, 12, 13, 1, 55, 56, 57, 58, 59, 60, 61, 62, 63, 64, 65, 66, 67, 68, 69, 70, 71, 72] (by decide +kernel) (by decide +kernel)) (goodIn_sub (fun _ h => List.mem_cons_of_mem _ (List.mem_append_left _ (List.mem_append_left _ (List.mem_append_right _ h)))) (by decide +kernel))
set_option maxRecDepth 20000 in
theorem gX0_addFork_X0_requirePlace : GoodIn wsX0_addFork (wsV RX0 84 RX0 yX0_requirePlace wsX0_requirePlace) := goodIn_app (goodIn_of _ (by decide +kernel)) ggX0_addFork_X0_requirePlace
set_option maxRecDepth 20000 in
theorem ggX0_addFork_X0_requireWeight : GoodIn wsX0_addFork wsX0_requireWeight := goodIn_ca (goodIn_r _ [16, 17, 18] (by decide +kernel) (by decide +kernel)) (goodIn_sub (fun _ h => List.mem_cons_of_mem _ (List.mem_append_left _ (List.mem_append_right _ h))) (by decide +kernel))
set_option maxRecDepth 20000 in
theorem gX0_addFork_X0_requireWeight : GoodIn wsX0_addFork (va_wsS RX0 87 yX0_requireWeight wsX0_requireWeight) := goodIn_app (goodIn_of _ (by decide +kernel)) ggX0_addFork_X0_requireWeight
set_option maxRecDepth 20000 in
theorem ggX0_addFork_X0_requireRoom : GoodIn wsX0_addFork wsX0_requireRoom := goodIn_ca (goodIn_r _ [22, 23, 24, 1, 55, 56, 57, 58, 59, 60, 61, 62, 63, 64, 65, 66, 67, 68, 69, 70, 71, 72] (by decide +kernel) (by decide +kernel)) (goodIn_sub (fun _ h => List.mem_cons_of_mem _ (List.mem_append_right _ h)) (by decide +kernel))
set_option maxRecDepth 20000 in
theorem gX0_addFork_X0_requireRoom : GoodIn wsX0_addFork (wsV RX0 57 RX0 yX0_requireRoom wsX0_requireRoom) := goodIn_app (goodIn_of _ (by decide +kernel)) ggX0_addFork_X0_requireRoom
set_option maxRecDepth 20000 in
theorem ggX0_addFork_X0_put : GoodIn wsX0_addFork wsX0_put := goodIn_r _ [27] (by decide +kernel) (by decide +kernel)
set_option maxRecDepth 20000 in
theorem gX0_addFork_X0_put : GoodIn wsX0_addFork (va_wsS RX0 72 yX0_put wsX0_put) := goodIn_app (goodIn_of _ (by decide +kernel)) ggX0_addFork_X0_put
set_option maxRecDepth 20000 in
theorem ggX0_addFork_X0_bitOf : GoodIn wsX0_addFork wsX0_bitOf := goodIn_r _ [30] (by decide +kernel) (by decide +kernel)
set_option maxRecDepth 20000 in
theorem gX0_addFork_X0_bitOf : GoodIn wsX0_addFork (va_wsS RX0 68 yX0_bitOf wsX0_bitOf) := goodIn_app (goodIn_of _ (by decide +kernel)) ggX0_addFork_X0_bitOf
set_option maxRecDepth 20000 in
theorem ggX0_addFork_X0_bitsAt : GoodIn wsX0_addFork wsX0_bitsAt := goodIn_r _ [33] (by decide +kernel) (by decide +kernel)
set_option maxRecDepth 20000 in
theorem gX0_addFork_X0_bitsAt : GoodIn wsX0_addFork (va_wsS RX0 90 yX0_bitsAt wsX0_bitsAt) := goodIn_app (goodIn_of _ (by decide +kernel)) ggX0_addFork_X0_bitsAt
set_option maxRecDepth 20000 in
theorem ggX0_addFork_X0_putBits : GoodIn wsX0_addFork wsX0_putBits := goodIn_r _ [36] (by decide +kernel) (by decide +kernel)
set_option maxRecDepth 20000 in
theorem gX0_addFork_X0_putBits : GoodIn wsX0_addFork (va_wsS RX0 76 yX0_putBits wsX0_putBits) := goodIn_app (goodIn_of _ (by decide +kernel)) ggX0_addFork_X0_putBits
set_option maxRecDepth 20000 in
theorem ggX0_addFork_X0_settleFork : GoodIn wsX0_addFork wsX0_settleFork := goodIn_r _ [40, 41, 42, 43, 44, 45, 46, 10, 47, 2, 3, 48, 49, 50, 51, 52, 53, 54, 25, 26, 27, 55, 56, 57, 58, 59, 60, 61, 62, 63, 64, 65, 66, 67, 68, 69, 70, 71, 72] (by decide +kernel) (by decide +kernel)
set_option maxRecDepth 20000 in
theorem gX0_addFork_X0_settleFork : GoodIn wsX0_addFork (wsV RX0 94 RX0 yX0_settleFork wsX0_settleFork) := goodIn_app (goodIn_of _ (by decide +kernel)) ggX0_addFork_X0_settleFork
theorem dX0_addFork_0 : decode cX0_addFork 0 = .ok (.aload_n 0, 1) := by decide +kernel
theorem dX0_addFork_1 : decode cX0_addFork 1 = .ok (.iload_n 1, 1) := by decide +kernel
theorem dX0_addFork_2 : decode cX0_addFork 2 = .ok (.invokevirtual 84, 3) := by decide +kernel
theorem dX0_addFork_5 : decode cX0_addFork 5 = .ok (.aload_n 0, 1) := by decide +kernel
theorem dX0_addFork_6 : decode cX0_addFork 6 = .ok (.iload_n 2, 1) := by decide +kernel
theorem dX0_addFork_7 : decode cX0_addFork 7 = .ok (.invokevirtual 84, 3) := by decide +kernel
theorem dX0_addFork_10 : decode cX0_addFork 10 = .ok (.iload_n 3, 1) := by decide +kernel
theorem dX0_addFork_11 : decode cX0_addFork 11 = .ok (.invokestatic 87, 3) := by decide +kernel
theorem dX0_addFork_14 : decode cX0_addFork 14 = .ok (.aload_n 0, 1) := by decide +kernel
theorem dX0_addFork_15 : decode cX0_addFork 15 = .ok (.invokevirtual 57, 3) := by decide +kernel
theorem dX0_addFork_18 : decode cX0_addFork 18 = .ok (.aload_n 0, 1) := by decide +kernel
theorem dX0_addFork_19 : decode cX0_addFork 19 = .ok (.getfield 60, 3) := by decide +kernel
theorem dX0_addFork_22 : decode cX0_addFork 22 = .ok (.istore 4, 2) := by decide +kernel
theorem dX0_addFork_24 : decode cX0_addFork 24 = .ok (.aload_n 0, 1) := by decide +kernel
theorem dX0_addFork_25 : decode cX0_addFork 25 = .ok (.getfield 16, 3) := by decide +kernel
theorem dX0_addFork_28 : decode cX0_addFork 28 = .ok (.iload 4, 2) := by decide +kernel
theorem dX0_addFork_30 : decode cX0_addFork 30 = .ok (.iload_n 1, 1) := by decide +kernel
theorem dX0_addFork_31 : decode cX0_addFork 31 = .ok (.invokestatic 72, 3) := by decide +kernel
theorem dX0_addFork_34 : decode cX0_addFork 34 = .ok (.aload_n 0, 1) := by decide +kernel
theorem dX0_addFork_35 : decode cX0_addFork 35 = .ok (.getfield 19, 3) := by decide +kernel
theorem dX0_addFork_38 : decode cX0_addFork 38 = .ok (.iload 4, 2) := by decide +kernel
theorem dX0_addFork_40 : decode cX0_addFork 40 = .ok (.iload_n 2, 1) := by decide +kernel
theorem dX0_addFork_41 : decode cX0_addFork 41 = .ok (.invokestatic 72, 3) := by decide +kernel
theorem dX0_addFork_44 : decode cX0_addFork 44 = .ok (.aload_n 0, 1) := by decide +kernel
theorem dX0_addFork_45 : decode cX0_addFork 45 = .ok (.getfield 22, 3) := by decide +kernel
theorem dX0_addFork_48 : decode cX0_addFork 48 = .ok (.iload 4, 2) := by decide +kernel
theorem dX0_addFork_50 : decode cX0_addFork 50 = .ok (.iload_n 3, 1) := by decide +kernel
theorem dX0_addFork_51 : decode cX0_addFork 51 = .ok (.invokestatic 72, 3) := by decide +kernel
theorem dX0_addFork_54 : decode cX0_addFork 54 = .ok (.aload_n 0, 1) := by decide +kernel
theorem dX0_addFork_55 : decode cX0_addFork 55 = .ok (.getfield 25, 3) := by decide +kernel
theorem dX0_addFork_58 : decode cX0_addFork 58 = .ok (.iload 4, 2) := by decide +kernel
theorem dX0_addFork_60 : decode cX0_addFork 60 = .ok (.iconst (-1), 1) := by decide +kernel
theorem dX0_addFork_61 : decode cX0_addFork 61 = .ok (.invokestatic 72, 3) := by decide +kernel
theorem dX0_addFork_64 : decode cX0_addFork 64 = .ok (.aload_n 0, 1) := by decide +kernel
theorem dX0_addFork_65 : decode cX0_addFork 65 = .ok (.getfield 37, 3) := by decide +kernel
theorem dX0_addFork_68 : decode cX0_addFork 68 = .ok (.iload 4, 2) := by decide +kernel
theorem dX0_addFork_70 : decode cX0_addFork 70 = .ok (.iload 4, 2) := by decide +kernel
theorem dX0_addFork_72 : decode cX0_addFork 72 = .ok (.invokestatic 68, 3) := by decide +kernel
theorem dX0_addFork_75 : decode cX0_addFork 75 = .ok (.aload_n 0, 1) := by decide +kernel
theorem dX0_addFork_76 : decode cX0_addFork 76 = .ok (.getfield 37, 3) := by decide +kernel
theorem dX0_addFork_79 : decode cX0_addFork 79 = .ok (.iload_n 1, 1) := by decide +kernel
theorem dX0_addFork_80 : decode cX0_addFork 80 = .ok (.invokestatic 90, 3) := by decide +kernel
theorem dX0_addFork_83 : decode cX0_addFork 83 = .ok (.lor, 1) := by decide +kernel
theorem dX0_addFork_84 : decode cX0_addFork 84 = .ok (.aload_n 0, 1) := by decide +kernel
theorem dX0_addFork_85 : decode cX0_addFork 85 = .ok (.getfield 37, 3) := by decide +kernel
theorem dX0_addFork_88 : decode cX0_addFork 88 = .ok (.iload_n 2, 1) := by decide +kernel
theorem dX0_addFork_89 : decode cX0_addFork 89 = .ok (.invokestatic 90, 3) := by decide +kernel
theorem dX0_addFork_92 : decode cX0_addFork 92 = .ok (.lor, 1) := by decide +kernel
theorem dX0_addFork_93 : decode cX0_addFork 93 = .ok (.invokestatic 76, 3) := by decide +kernel
theorem dX0_addFork_96 : decode cX0_addFork 96 = .ok (.aload_n 0, 1) := by decide +kernel
theorem dX0_addFork_97 : decode cX0_addFork 97 = .ok (.iload 4, 2) := by decide +kernel
theorem dX0_addFork_99 : decode cX0_addFork 99 = .ok (.invokevirtual 94, 3) := by decide +kernel
theorem dX0_addFork_102 : decode cX0_addFork 102 = .ok (.aload_n 0, 1) := by decide +kernel
theorem dX0_addFork_103 : decode cX0_addFork 103 = .ok (.dup, 1) := by decide +kernel
theorem dX0_addFork_104 : decode cX0_addFork 104 = .ok (.getfield 60, 3) := by decide +kernel
theorem dX0_addFork_107 : decode cX0_addFork 107 = .ok (.iconst 1, 1) := by decide +kernel
theorem dX0_addFork_108 : decode cX0_addFork 108 = .ok (.iadd, 1) := by decide +kernel
theorem dX0_addFork_109 : decode cX0_addFork 109 = .ok (.putfield 60, 3) := by decide +kernel
theorem dX0_addFork_112 : decode cX0_addFork 112 = .ok (.iload 4, 2) := by decide +kernel
theorem dX0_addFork_114 : decode cX0_addFork 114 = .ok (.ireturn, 1) := by decide +kernel
set_option maxRecDepth 20000 in
theorem ggX0_grade_X0_requireExam : GoodIn wsX0_grade wsX0_requireExam := goodIn_ca (goodIn_r _ [14, 15, 16, 17, 18, 19, 13, 20, 21, 22, 23, 24, 25, 26, 27, 28, 29, 65, 66, 67, 68, 69, 70, 71, 72, 73, 74, 75, 76, 77, 78, 79, 80, 81, 82] (by decide +kernel) (by decide +kernel)) (goodIn_sub (fun _ h => List.mem_cons_of_mem _ (List.mem_append_right _ h)) (by decide +kernel))
set_option maxRecDepth 20000 in
theorem gX0_grade_X0_requireExam : GoodIn wsX0_grade (wsV RX0 97 RX0 yX0_requireExam wsX0_requireExam) := goodIn_app (goodIn_of _ (by decide +kernel)) ggX0_grade_X0_requireExam
set_option maxRecDepth 20000 in
theorem ggX0_grade_X0_at : GoodIn wsX0_grade wsX0_at := goodIn_r _ [32] (by decide +kernel) (by decide +kernel)
set_option maxRecDepth 20000 in
theorem gX0_grade_X0_at : GoodIn wsX0_grade (va_wsS RX0 100 yX0_at wsX0_at) := goodIn_app (goodIn_of _ (by decide +kernel)) ggX0_grade_X0_at
set_option maxRecDepth 20000 in
theorem ggX0_grade_X0_hasGrade : GoodIn wsX0_grade wsX0_hasGrade := goodIn_r _ [36, 7, 30, 31, 13, 32, 65, 66, 67, 68, 69, 70, 71, 72, 73, 74, 75, 76, 77, 78, 79, 80, 81, 82] (by decide +kernel) (by decide +kernel)
set_option maxRecDepth 20000 in
theorem gX0_grade_X0_hasGrade : GoodIn wsX0_grade (wsV RX0 106 RX0 yX0_hasGrade wsX0_hasGrade) := goodIn_app (goodIn_of _ (by decide +kernel)) ggX0_grade_X0_hasGrade
set_option maxRecDepth 20000 in
theorem ggX0_grade_X0_put : GoodIn wsX0_grade wsX0_put := goodIn_r _ [39] (by decide +kernel) (by decide +kernel)
set_option maxRecDepth 20000 in
theorem gX0_grade_X0_put : GoodIn wsX0_grade (va_wsS RX0 72 yX0_put wsX0_put) := goodIn_app (goodIn_of _ (by decide +kernel)) ggX0_grade_X0_put
set_option maxRecDepth 20000 in
theorem ggX0_grade_X0_settleExam : GoodIn wsX0_grade wsX0_settleExam := goodIn_r _ [43, 7, 44, 5, 45, 6, 46, 33, 34, 35, 13, 36, 30, 31, 32, 37, 38, 39, 65, 66, 67, 68, 69, 70, 71, 72, 73, 74, 75, 76, 77, 78, 79, 80, 81, 82] (by decide +kernel) (by decide +kernel)
set_option maxRecDepth 20000 in
theorem gX0_grade_X0_settleExam : GoodIn wsX0_grade (wsV RX0 80 RX0 yX0_settleExam wsX0_settleExam) := goodIn_app (goodIn_of _ (by decide +kernel)) ggX0_grade_X0_settleExam
set_option maxRecDepth 20000 in
theorem ggX0_grade_X0_settleForksAfter : GoodIn wsX0_grade wsX0_settleForksAfter := goodIn_r _ [50, 21, 22, 23, 24, 13, 25, 26, 27, 28, 29, 51, 52, 53, 54, 44, 45, 46, 55, 56, 57, 58, 59, 60, 61, 62, 63, 64, 30, 31, 32, 37, 38, 39, 65, 66, 67, 68, 69, 70, 71, 72, 73, 74, 75, 76, 77, 78, 79, 80, 81, 82] (by decide +kernel) (by decide +kernel)
set_option maxRecDepth 20000 in
theorem gX0_grade_X0_settleForksAfter : GoodIn wsX0_grade (wsV RX0 121 RX0 yX0_settleForksAfter wsX0_settleForksAfter) := goodIn_app (goodIn_of _ (by decide +kernel)) ggX0_grade_X0_settleForksAfter
theorem dX0_grade_0 : decode cX0_grade 0 = .ok (.aload_n 0, 1) := by decide +kernel
theorem dX0_grade_1 : decode cX0_grade 1 = .ok (.iload_n 1, 1) := by decide +kernel
theorem dX0_grade_2 : decode cX0_grade 2 = .ok (.invokevirtual 97, 3) := by decide +kernel
theorem dX0_grade_5 : decode cX0_grade 5 = .ok (.iload_n 2, 1) := by decide +kernel
theorem dX0_grade_6 : decode cX0_grade 6 = .ok (.aload_n 0, 1) := by decide +kernel
theorem dX0_grade_7 : decode cX0_grade 7 = .ok (.getfield 9, 3) := by decide +kernel
theorem dX0_grade_10 : decode cX0_grade 10 = .ok (.iload_n 1, 1) := by decide +kernel
theorem dX0_grade_11 : decode cX0_grade 11 = .ok (.invokestatic 100, 3) := by decide +kernel
theorem dX0_grade_14 : decode cX0_grade 14 = .ok (.if_icmp .lt 15, 3) := by decide +kernel
theorem dX0_grade_17 : decode cX0_grade 17 = .ok (.iload_n 2, 1) := by decide +kernel
theorem dX0_grade_18 : decode cX0_grade 18 = .ok (.aload_n 0, 1) := by decide +kernel
theorem dX0_grade_19 : decode cX0_grade 19 = .ok (.getfield 13, 3) := by decide +kernel
theorem dX0_grade_22 : decode cX0_grade 22 = .ok (.iload_n 1, 1) := by decide +kernel
theorem dX0_grade_23 : decode cX0_grade 23 = .ok (.invokestatic 100, 3) := by decide +kernel
theorem dX0_grade_26 : decode cX0_grade 26 = .ok (.if_icmp .le 13, 3) := by decide +kernel
theorem dX0_grade_29 : decode cX0_grade 29 = .ok (.new 50, 3) := by decide +kernel
theorem dX0_grade_32 : decode cX0_grade 32 = .ok (.dup, 1) := by decide +kernel
theorem dX0_grade_33 : decode cX0_grade 33 = .ok (.ldc 104, 2) := by decide +kernel
theorem dX0_grade_35 : decode cX0_grade 35 = .ok (.invokespecial 54, 3) := by decide +kernel
theorem dX0_grade_38 : decode cX0_grade 38 = .ok (.athrow, 1) := by decide +kernel
theorem dX0_grade_39 : decode cX0_grade 39 = .ok (.aload_n 0, 1) := by decide +kernel
theorem dX0_grade_40 : decode cX0_grade 40 = .ok (.iload_n 1, 1) := by decide +kernel
theorem dX0_grade_41 : decode cX0_grade 41 = .ok (.invokevirtual 106, 3) := by decide +kernel
theorem dX0_grade_44 : decode cX0_grade 44 = .ok (.ifCond .eq 13, 3) := by decide +kernel
theorem dX0_grade_47 : decode cX0_grade 47 = .ok (.new 110, 3) := by decide +kernel
theorem dX0_grade_50 : decode cX0_grade 50 = .ok (.dup, 1) := by decide +kernel
theorem dX0_grade_51 : decode cX0_grade 51 = .ok (.ldc 112, 2) := by decide +kernel
theorem dX0_grade_53 : decode cX0_grade 53 = .ok (.invokespecial 114, 3) := by decide +kernel
theorem dX0_grade_56 : decode cX0_grade 56 = .ok (.athrow, 1) := by decide +kernel
theorem dX0_grade_57 : decode cX0_grade 57 = .ok (.aload_n 0, 1) := by decide +kernel
theorem dX0_grade_58 : decode cX0_grade 58 = .ok (.getfield 25, 3) := by decide +kernel
theorem dX0_grade_61 : decode cX0_grade 61 = .ok (.iload_n 1, 1) := by decide +kernel
theorem dX0_grade_62 : decode cX0_grade 62 = .ok (.iload_n 2, 1) := by decide +kernel
theorem dX0_grade_63 : decode cX0_grade 63 = .ok (.invokestatic 72, 3) := by decide +kernel
theorem dX0_grade_66 : decode cX0_grade 66 = .ok (.aload_n 0, 1) := by decide +kernel
theorem dX0_grade_67 : decode cX0_grade 67 = .ok (.dup, 1) := by decide +kernel
theorem dX0_grade_68 : decode cX0_grade 68 = .ok (.getfield 115, 3) := by decide +kernel
theorem dX0_grade_71 : decode cX0_grade 71 = .ok (.iconst 1, 1) := by decide +kernel
theorem dX0_grade_72 : decode cX0_grade 72 = .ok (.iadd, 1) := by decide +kernel
theorem dX0_grade_73 : decode cX0_grade 73 = .ok (.putfield 115, 3) := by decide +kernel
theorem dX0_grade_76 : decode cX0_grade 76 = .ok (.aload_n 0, 1) := by decide +kernel
theorem dX0_grade_77 : decode cX0_grade 77 = .ok (.dup, 1) := by decide +kernel
theorem dX0_grade_78 : decode cX0_grade 78 = .ok (.getfield 118, 3) := by decide +kernel
theorem dX0_grade_81 : decode cX0_grade 81 = .ok (.iload_n 2, 1) := by decide +kernel
theorem dX0_grade_82 : decode cX0_grade 82 = .ok (.iadd, 1) := by decide +kernel
theorem dX0_grade_83 : decode cX0_grade 83 = .ok (.putfield 118, 3) := by decide +kernel
theorem dX0_grade_86 : decode cX0_grade 86 = .ok (.aload_n 0, 1) := by decide +kernel
theorem dX0_grade_87 : decode cX0_grade 87 = .ok (.iload_n 1, 1) := by decide +kernel
theorem dX0_grade_88 : decode cX0_grade 88 = .ok (.invokevirtual 80, 3) := by decide +kernel
theorem dX0_grade_91 : decode cX0_grade 91 = .ok (.aload_n 0, 1) := by decide +kernel
theorem dX0_grade_92 : decode cX0_grade 92 = .ok (.iload_n 1, 1) := by decide +kernel
theorem dX0_grade_93 : decode cX0_grade 93 = .ok (.invokevirtual 121, 3) := by decide +kernel
theorem dX0_grade_96 : decode cX0_grade 96 = .ok (.aload_n 0, 1) := by decide +kernel
theorem dX0_grade_97 : decode cX0_grade 97 = .ok (.getfield 115, 3) := by decide +kernel
theorem dX0_grade_100 : decode cX0_grade 100 = .ok (.ireturn, 1) := by decide +kernel
set_option maxRecDepth 20000 in
theorem ggX0_weigh_X0_requireFork : GoodIn wsX0_weigh wsX0_requireFork := goodIn_ca (goodIn_r _ [6, 7, 8, 9, 10, 11, 5, 12, 13, 14, 15, 16, 17, 18, 19, 20, 21, 33, 34, 35, 36, 37, 38, 39, 40, 41, 42, 43, 44, 45, 46, 47, 48, 49, 50] (by decide +kernel) (by decide +kernel)) (goodIn_sub (fun _ h => List.mem_cons_of_mem _ (List.mem_append_left _ (List.mem_append_right _ h))) (by decide +kernel))
set_option maxRecDepth 20000 in
theorem gX0_weigh_X0_requireFork : GoodIn wsX0_weigh (wsV RX0 124 RX0 yX0_requireFork wsX0_requireFork) := goodIn_app (goodIn_of _ (by decide +kernel)) ggX0_weigh_X0_requireFork
set_option maxRecDepth 20000 in
theorem ggX0_weigh_X0_requireWeight : GoodIn wsX0_weigh wsX0_requireWeight := goodIn_ca (goodIn_r _ [24, 25, 26] (by decide +kernel) (by decide +kernel)) (goodIn_sub (fun _ h => List.mem_cons_of_mem _ (List.mem_append_right _ h)) (by decide +kernel))
set_option maxRecDepth 20000 in
theorem gX0_weigh_X0_requireWeight : GoodIn wsX0_weigh (va_wsS RX0 87 yX0_requireWeight wsX0_requireWeight) := goodIn_app (goodIn_of _ (by decide +kernel)) ggX0_weigh_X0_requireWeight
set_option maxRecDepth 20000 in
theorem ggX0_weigh_X0_at : GoodIn wsX0_weigh wsX0_at := goodIn_r _ [29] (by decide +kernel) (by decide +kernel)
set_option maxRecDepth 20000 in
theorem gX0_weigh_X0_at : GoodIn wsX0_weigh (va_wsS RX0 100 yX0_at wsX0_at) := goodIn_app (goodIn_of _ (by decide +kernel)) ggX0_weigh_X0_at
set_option maxRecDepth 20000 in
theorem ggX0_weigh_X0_put : GoodIn wsX0_weigh wsX0_put := goodIn_r _ [32] (by decide +kernel) (by decide +kernel)
set_option maxRecDepth 20000 in
theorem gX0_weigh_X0_put : GoodIn wsX0_weigh (va_wsS RX0 72 yX0_put wsX0_put) := goodIn_app (goodIn_of _ (by decide +kernel)) ggX0_weigh_X0_put
theorem dX0_weigh_0 : decode cX0_weigh 0 = .ok (.aload_n 0, 1) := by decide +kernel
theorem dX0_weigh_1 : decode cX0_weigh 1 = .ok (.iload_n 1, 1) := by decide +kernel
theorem dX0_weigh_2 : decode cX0_weigh 2 = .ok (.invokevirtual 124, 3) := by decide +kernel
theorem dX0_weigh_5 : decode cX0_weigh 5 = .ok (.iload_n 2, 1) := by decide +kernel
theorem dX0_weigh_6 : decode cX0_weigh 6 = .ok (.invokestatic 87, 3) := by decide +kernel
theorem dX0_weigh_9 : decode cX0_weigh 9 = .ok (.aload_n 0, 1) := by decide +kernel
theorem dX0_weigh_10 : decode cX0_weigh 10 = .ok (.getfield 22, 3) := by decide +kernel
theorem dX0_weigh_13 : decode cX0_weigh 13 = .ok (.iload_n 1, 1) := by decide +kernel
theorem dX0_weigh_14 : decode cX0_weigh 14 = .ok (.invokestatic 100, 3) := by decide +kernel
theorem dX0_weigh_17 : decode cX0_weigh 17 = .ok (.istore_n 3, 1) := by decide +kernel
theorem dX0_weigh_18 : decode cX0_weigh 18 = .ok (.aload_n 0, 1) := by decide +kernel
theorem dX0_weigh_19 : decode cX0_weigh 19 = .ok (.getfield 22, 3) := by decide +kernel
theorem dX0_weigh_22 : decode cX0_weigh 22 = .ok (.iload_n 1, 1) := by decide +kernel
theorem dX0_weigh_23 : decode cX0_weigh 23 = .ok (.iload_n 2, 1) := by decide +kernel
theorem dX0_weigh_24 : decode cX0_weigh 24 = .ok (.invokestatic 72, 3) := by decide +kernel
theorem dX0_weigh_27 : decode cX0_weigh 27 = .ok (.iload_n 3, 1) := by decide +kernel
theorem dX0_weigh_28 : decode cX0_weigh 28 = .ok (.ireturn, 1) := by decide +kernel
set_option maxRecDepth 20000 in
theorem ggX0_enroll_X0_requirePlace : GoodIn wsX0_enroll wsX0_requirePlace := goodIn_ca (goodIn_r _ [9, 10, 11, 12, 16, 17, 18, 19, 20, 21, 22, 23, 24, 25, 26, 27, 28, 29, 30, 31, 32, 33] (by decide +kernel) (by decide +kernel)) (goodIn_sub (fun _ h => List.mem_cons_of_mem _ (List.mem_append_right _ h)) (by decide +kernel))
set_option maxRecDepth 20000 in
theorem gX0_enroll_X0_requirePlace : GoodIn wsX0_enroll (wsV RX0 84 RX0 yX0_requirePlace wsX0_requirePlace) := goodIn_app (goodIn_of _ (by decide +kernel)) ggX0_enroll_X0_requirePlace
set_option maxRecDepth 20000 in
theorem ggX0_enroll_X0_put : GoodIn wsX0_enroll wsX0_put := goodIn_r _ [15] (by decide +kernel) (by decide +kernel)
set_option maxRecDepth 20000 in
theorem gX0_enroll_X0_put : GoodIn wsX0_enroll (va_wsS RX0 72 yX0_put wsX0_put) := goodIn_app (goodIn_of _ (by decide +kernel)) ggX0_enroll_X0_put
theorem dX0_enroll_0 : decode cX0_enroll 0 = .ok (.aload_n 0, 1) := by decide +kernel
theorem dX0_enroll_1 : decode cX0_enroll 1 = .ok (.iload_n 1, 1) := by decide +kernel
theorem dX0_enroll_2 : decode cX0_enroll 2 = .ok (.invokevirtual 84, 3) := by decide +kernel
theorem dX0_enroll_5 : decode cX0_enroll 5 = .ok (.aload_n 0, 1) := by decide +kernel
theorem dX0_enroll_6 : decode cX0_enroll 6 = .ok (.getfield 127, 3) := by decide +kernel
theorem dX0_enroll_9 : decode cX0_enroll 9 = .ok (.bipush 8, 2) := by decide +kernel
theorem dX0_enroll_11 : decode cX0_enroll 11 = .ok (.if_icmp .lt 13, 3) := by decide +kernel
theorem dX0_enroll_14 : decode cX0_enroll 14 = .ok (.new 110, 3) := by decide +kernel
theorem dX0_enroll_17 : decode cX0_enroll 17 = .ok (.dup, 1) := by decide +kernel
theorem dX0_enroll_18 : decode cX0_enroll 18 = .ok (.ldc 130, 2) := by decide +kernel
theorem dX0_enroll_20 : decode cX0_enroll 20 = .ok (.invokespecial 114, 3) := by decide +kernel
theorem dX0_enroll_23 : decode cX0_enroll 23 = .ok (.athrow, 1) := by decide +kernel
theorem dX0_enroll_24 : decode cX0_enroll 24 = .ok (.aload_n 0, 1) := by decide +kernel
theorem dX0_enroll_25 : decode cX0_enroll 25 = .ok (.getfield 127, 3) := by decide +kernel
theorem dX0_enroll_28 : decode cX0_enroll 28 = .ok (.istore_n 2, 1) := by decide +kernel
theorem dX0_enroll_29 : decode cX0_enroll 29 = .ok (.aload_n 0, 1) := by decide +kernel
theorem dX0_enroll_30 : decode cX0_enroll 30 = .ok (.getfield 41, 3) := by decide +kernel
theorem dX0_enroll_33 : decode cX0_enroll 33 = .ok (.iload_n 2, 1) := by decide +kernel
theorem dX0_enroll_34 : decode cX0_enroll 34 = .ok (.iload_n 1, 1) := by decide +kernel
theorem dX0_enroll_35 : decode cX0_enroll 35 = .ok (.invokestatic 72, 3) := by decide +kernel
theorem dX0_enroll_38 : decode cX0_enroll 38 = .ok (.aload_n 0, 1) := by decide +kernel
theorem dX0_enroll_39 : decode cX0_enroll 39 = .ok (.dup, 1) := by decide +kernel
theorem dX0_enroll_40 : decode cX0_enroll 40 = .ok (.getfield 127, 3) := by decide +kernel
theorem dX0_enroll_43 : decode cX0_enroll 43 = .ok (.iconst 1, 1) := by decide +kernel
theorem dX0_enroll_44 : decode cX0_enroll 44 = .ok (.iadd, 1) := by decide +kernel
theorem dX0_enroll_45 : decode cX0_enroll 45 = .ok (.putfield 127, 3) := by decide +kernel
theorem dX0_enroll_48 : decode cX0_enroll 48 = .ok (.iload_n 2, 1) := by decide +kernel
theorem dX0_enroll_49 : decode cX0_enroll 49 = .ok (.ireturn, 1) := by decide +kernel
set_option maxRecDepth 20000 in
theorem ggX0_turn_X0_requireStudent : GoodIn wsX0_turn wsX0_requireStudent := goodIn_ca (goodIn_r _ [8, 9, 10, 11, 38, 39, 40, 41, 42, 43, 44, 45, 46, 47, 48, 49, 50, 51, 52, 53, 54, 55] (by decide +kernel) (by decide +kernel)) (goodIn_sub (fun _ h => List.mem_cons_of_mem _ (List.mem_append_right _ h)) (by decide +kernel))
set_option maxRecDepth 20000 in
theorem gX0_turn_X0_requireStudent : GoodIn wsX0_turn (wsV RX0 132 RX0 yX0_requireStudent wsX0_requireStudent) := goodIn_app (goodIn_of _ (by decide +kernel)) ggX0_turn_X0_requireStudent
set_option maxRecDepth 20000 in
theorem ggX0_turn_X0_at : GoodIn wsX0_turn wsX0_at := goodIn_r _ [14] (by decide +kernel) (by decide +kernel)
set_option maxRecDepth 20000 in
theorem gX0_turn_X0_at : GoodIn wsX0_turn (va_wsS RX0 100 yX0_at wsX0_at) := goodIn_app (goodIn_of _ (by decide +kernel)) ggX0_turn_X0_at
set_option maxRecDepth 20000 in
theorem ggX0_turn_X0_holdsExam : GoodIn wsX0_turn wsX0_holdsExam := goodIn_r _ [18, 19, 20, 21, 7, 22, 38, 39, 40, 41, 42, 43, 44, 45, 46, 47, 48, 49, 50, 51, 52, 53, 54, 55] (by decide +kernel) (by decide +kernel)
set_option maxRecDepth 20000 in
theorem gX0_turn_X0_holdsExam : GoodIn wsX0_turn (wsV RX0 135 RX0 yX0_holdsExam wsX0_holdsExam) := goodIn_app (goodIn_of _ (by decide +kernel)) ggX0_turn_X0_holdsExam
set_option maxRecDepth 20000 in
theorem ggX0_turn_X0_walk : GoodIn wsX0_turn wsX0_walk := goodIn_r _ [26, 3, 27, 28, 12, 13, 7, 14, 29, 30, 31, 32, 33, 34, 35, 36, 37, 38, 39, 40, 41, 42, 43, 44, 45, 46, 47, 48, 49, 50, 51, 52, 53, 54, 55] (by decide +kernel) (by decide +kernel)
set_option maxRecDepth 20000 in
theorem gX0_turn_X0_walk : GoodIn wsX0_turn (wsV RX0 140 RX0 yX0_walk wsX0_walk) := goodIn_app (goodIn_of _ (by decide +kernel)) ggX0_turn_X0_walk
theorem dX0_turn_0 : decode cX0_turn 0 = .ok (.aload_n 0, 1) := by decide +kernel
theorem dX0_turn_1 : decode cX0_turn 1 = .ok (.iload_n 1, 1) := by decide +kernel
theorem dX0_turn_2 : decode cX0_turn 2 = .ok (.invokevirtual 132, 3) := by decide +kernel
theorem dX0_turn_5 : decode cX0_turn 5 = .ok (.aload_n 0, 1) := by decide +kernel
theorem dX0_turn_6 : decode cX0_turn 6 = .ok (.aload_n 0, 1) := by decide +kernel
theorem dX0_turn_7 : decode cX0_turn 7 = .ok (.getfield 41, 3) := by decide +kernel
theorem dX0_turn_10 : decode cX0_turn 10 = .ok (.iload_n 1, 1) := by decide +kernel
theorem dX0_turn_11 : decode cX0_turn 11 = .ok (.invokestatic 100, 3) := by decide +kernel
theorem dX0_turn_14 : decode cX0_turn 14 = .ok (.invokevirtual 135, 3) := by decide +kernel
theorem dX0_turn_17 : decode cX0_turn 17 = .ok (.ifCond .eq 13, 3) := by decide +kernel
theorem dX0_turn_20 : decode cX0_turn 20 = .ok (.new 110, 3) := by decide +kernel
theorem dX0_turn_23 : decode cX0_turn 23 = .ok (.dup, 1) := by decide +kernel
theorem dX0_turn_24 : decode cX0_turn 24 = .ok (.ldc 138, 2) := by decide +kernel
theorem dX0_turn_26 : decode cX0_turn 26 = .ok (.invokespecial 114, 3) := by decide +kernel
theorem dX0_turn_29 : decode cX0_turn 29 = .ok (.athrow, 1) := by decide +kernel
theorem dX0_turn_30 : decode cX0_turn 30 = .ok (.aload_n 0, 1) := by decide +kernel
theorem dX0_turn_31 : decode cX0_turn 31 = .ok (.iload_n 1, 1) := by decide +kernel
theorem dX0_turn_32 : decode cX0_turn 32 = .ok (.iload_n 2, 1) := by decide +kernel
theorem dX0_turn_33 : decode cX0_turn 33 = .ok (.invokevirtual 140, 3) := by decide +kernel
theorem dX0_turn_36 : decode cX0_turn 36 = .ok (.aload_n 0, 1) := by decide +kernel
theorem dX0_turn_37 : decode cX0_turn 37 = .ok (.getfield 41, 3) := by decide +kernel
theorem dX0_turn_40 : decode cX0_turn 40 = .ok (.iload_n 1, 1) := by decide +kernel
theorem dX0_turn_41 : decode cX0_turn 41 = .ok (.invokestatic 100, 3) := by decide +kernel
theorem dX0_turn_44 : decode cX0_turn 44 = .ok (.ireturn, 1) := by decide +kernel
set_option maxRecDepth 20000 in
theorem ggX0_goBack_X0_requireStudent : GoodIn wsX0_goBack wsX0_requireStudent := goodIn_ca (goodIn_r _ [9, 10, 11, 12, 24, 25, 26, 27, 28, 29, 30, 31, 32, 33, 34, 35, 36, 37, 38, 39, 40, 41] (by decide +kernel) (by decide +kernel)) (goodIn_sub (fun _ h => List.mem_cons_of_mem _ (List.mem_append_right _ h)) (by decide +kernel))
set_option maxRecDepth 20000 in
theorem gX0_goBack_X0_requireStudent : GoodIn wsX0_goBack (wsV RX0 132 RX0 yX0_requireStudent wsX0_requireStudent) := goodIn_app (goodIn_of _ (by decide +kernel)) ggX0_goBack_X0_requireStudent
set_option maxRecDepth 20000 in
theorem ggX0_goBack_X0_at : GoodIn wsX0_goBack wsX0_at := goodIn_r _ [15] (by decide +kernel) (by decide +kernel)
set_option maxRecDepth 20000 in
theorem gX0_goBack_X0_at : GoodIn wsX0_goBack (va_wsS RX0 100 yX0_at wsX0_at) := goodIn_app (goodIn_of _ (by decide +kernel)) ggX0_goBack_X0_at
set_option maxRecDepth 20000 in
theorem ggX0_goBack_X0_passedFork : GoodIn wsX0_goBack wsX0_passedFork := goodIn_r _ [19, 20, 13, 14, 8, 15, 24, 25, 26, 27, 28, 29, 30, 31, 32, 33, 34, 35, 36, 37, 38, 39, 40, 41] (by decide +kernel) (by decide +kernel)
set_option maxRecDepth 20000 in
theorem gX0_goBack_X0_passedFork : GoodIn wsX0_goBack (wsV RX0 146 RX0 yX0_passedFork wsX0_passedFork) := goodIn_app (goodIn_of _ (by decide +kernel)) ggX0_goBack_X0_passedFork
set_option maxRecDepth 20000 in
theorem ggX0_goBack_X0_put : GoodIn wsX0_goBack wsX0_put := goodIn_r _ [23] (by decide +kernel) (by decide +kernel)
set_option maxRecDepth 20000 in
theorem gX0_goBack_X0_put : GoodIn wsX0_goBack (va_wsS RX0 72 yX0_put wsX0_put) := goodIn_app (goodIn_of _ (by decide +kernel)) ggX0_goBack_X0_put
theorem dX0_goBack_0 : decode cX0_goBack 0 = .ok (.aload_n 0, 1) := by decide +kernel
theorem dX0_goBack_1 : decode cX0_goBack 1 = .ok (.iload_n 1, 1) := by decide +kernel
theorem dX0_goBack_2 : decode cX0_goBack 2 = .ok (.invokevirtual 132, 3) := by decide +kernel
theorem dX0_goBack_5 : decode cX0_goBack 5 = .ok (.aload_n 0, 1) := by decide +kernel
theorem dX0_goBack_6 : decode cX0_goBack 6 = .ok (.getfield 44, 3) := by decide +kernel
theorem dX0_goBack_9 : decode cX0_goBack 9 = .ok (.iload_n 1, 1) := by decide +kernel
theorem dX0_goBack_10 : decode cX0_goBack 10 = .ok (.invokestatic 100, 3) := by decide +kernel
theorem dX0_goBack_13 : decode cX0_goBack 13 = .ok (.iconst 1, 1) := by decide +kernel
theorem dX0_goBack_14 : decode cX0_goBack 14 = .ok (.isub, 1) := by decide +kernel
theorem dX0_goBack_15 : decode cX0_goBack 15 = .ok (.istore_n 2, 1) := by decide +kernel
theorem dX0_goBack_16 : decode cX0_goBack 16 = .ok (.iload_n 2, 1) := by decide +kernel
theorem dX0_goBack_17 : decode cX0_goBack 17 = .ok (.ifCond .ge 13, 3) := by decide +kernel
theorem dX0_goBack_20 : decode cX0_goBack 20 = .ok (.new 110, 3) := by decide +kernel
theorem dX0_goBack_23 : decode cX0_goBack 23 = .ok (.dup, 1) := by decide +kernel
theorem dX0_goBack_24 : decode cX0_goBack 24 = .ok (.ldc 144, 2) := by decide +kernel
theorem dX0_goBack_26 : decode cX0_goBack 26 = .ok (.invokespecial 114, 3) := by decide +kernel
theorem dX0_goBack_29 : decode cX0_goBack 29 = .ok (.athrow, 1) := by decide +kernel
theorem dX0_goBack_30 : decode cX0_goBack 30 = .ok (.aload_n 0, 1) := by decide +kernel
theorem dX0_goBack_31 : decode cX0_goBack 31 = .ok (.iload_n 1, 1) := by decide +kernel
theorem dX0_goBack_32 : decode cX0_goBack 32 = .ok (.iload_n 2, 1) := by decide +kernel
theorem dX0_goBack_33 : decode cX0_goBack 33 = .ok (.invokevirtual 146, 3) := by decide +kernel
theorem dX0_goBack_36 : decode cX0_goBack 36 = .ok (.istore_n 3, 1) := by decide +kernel
theorem dX0_goBack_37 : decode cX0_goBack 37 = .ok (.aload_n 0, 1) := by decide +kernel
theorem dX0_goBack_38 : decode cX0_goBack 38 = .ok (.getfield 41, 3) := by decide +kernel
theorem dX0_goBack_41 : decode cX0_goBack 41 = .ok (.iload_n 1, 1) := by decide +kernel
theorem dX0_goBack_42 : decode cX0_goBack 42 = .ok (.iload_n 3, 1) := by decide +kernel
theorem dX0_goBack_43 : decode cX0_goBack 43 = .ok (.invokestatic 72, 3) := by decide +kernel
theorem dX0_goBack_46 : decode cX0_goBack 46 = .ok (.aload_n 0, 1) := by decide +kernel
theorem dX0_goBack_47 : decode cX0_goBack 47 = .ok (.getfield 44, 3) := by decide +kernel
theorem dX0_goBack_50 : decode cX0_goBack 50 = .ok (.iload_n 1, 1) := by decide +kernel
theorem dX0_goBack_51 : decode cX0_goBack 51 = .ok (.iload_n 2, 1) := by decide +kernel
theorem dX0_goBack_52 : decode cX0_goBack 52 = .ok (.invokestatic 72, 3) := by decide +kernel
theorem dX0_goBack_55 : decode cX0_goBack 55 = .ok (.iload_n 3, 1) := by decide +kernel
theorem dX0_goBack_56 : decode cX0_goBack 56 = .ok (.ireturn, 1) := by decide +kernel
set_option maxRecDepth 20000 in
theorem ggX0_follow_X0_requireStudent : GoodIn wsX0_follow wsX0_requireStudent := goodIn_ca (goodIn_r _ [6, 7, 8, 9, 51, 52, 53, 54, 55, 56, 57, 58, 59, 60, 61, 62, 63, 64, 65, 66, 67, 68] (by decide +kernel) (by decide +kernel)) (goodIn_sub (fun _ h => List.mem_cons_of_mem _ (List.mem_append_right _ h)) (by decide +kernel))
set_option maxRecDepth 20000 in
theorem gX0_follow_X0_requireStudent : GoodIn wsX0_follow (wsV RX0 132 RX0 yX0_requireStudent wsX0_requireStudent) := goodIn_app (goodIn_of _ (by decide +kernel)) ggX0_follow_X0_requireStudent
set_option maxRecDepth 20000 in
theorem ggX0_follow_X0_at : GoodIn wsX0_follow wsX0_at := goodIn_r _ [12] (by decide +kernel) (by decide +kernel)
set_option maxRecDepth 20000 in
theorem gX0_follow_X0_at : GoodIn wsX0_follow (va_wsS RX0 100 yX0_at wsX0_at) := goodIn_app (goodIn_of _ (by decide +kernel)) ggX0_follow_X0_at
set_option maxRecDepth 20000 in
theorem ggX0_follow_X0_holdsExam : GoodIn wsX0_follow wsX0_holdsExam := goodIn_r _ [16, 17, 18, 19, 5, 20, 51, 52, 53, 54, 55, 56, 57, 58, 59, 60, 61, 62, 63, 64, 65, 66, 67, 68] (by decide +kernel) (by decide +kernel)
set_option maxRecDepth 20000 in
theorem gX0_follow_X0_holdsExam : GoodIn wsX0_follow (wsV RX0 135 RX0 yX0_holdsExam wsX0_holdsExam) := goodIn_app (goodIn_of _ (by decide +kernel)) ggX0_follow_X0_holdsExam
set_option maxRecDepth 20000 in
theorem ggX0_follow_X0_plansRight : GoodIn wsX0_follow wsX0_plansRight := goodIn_r _ [24, 25, 26, 27, 5, 28, 29, 30, 31, 32, 33, 34, 35, 36, 37, 38, 39, 40, 41, 10, 11, 12, 51, 52, 53, 54, 55, 56, 57, 58, 59, 60, 61, 62, 63, 64, 65, 66, 67, 68] (by decide +kernel) (by decide +kernel)
set_option maxRecDepth 20000 in
theorem gX0_follow_X0_plansRight : GoodIn wsX0_follow (wsV RX0 150 RX0 yX0_plansRight wsX0_plansRight) := goodIn_app (goodIn_of _ (by decide +kernel)) ggX0_follow_X0_plansRight
set_option maxRecDepth 20000 in
theorem ggX0_follow_X0_walk : GoodIn wsX0_follow wsX0_walk := goodIn_r _ [45, 1, 46, 47, 10, 11, 5, 12, 48, 49, 50, 36, 37, 38, 39, 40, 41, 51, 52, 53, 54, 55, 56, 57, 58, 59, 60, 61, 62, 63, 64, 65, 66, 67, 68] (by decide +kernel) (by decide +kernel)
set_option maxRecDepth 20000 in
theorem gX0_follow_X0_walk : GoodIn wsX0_follow (wsV RX0 140 RX0 yX0_walk wsX0_walk) := goodIn_app (goodIn_of _ (by decide +kernel)) ggX0_follow_X0_walk
theorem dX0_follow_0 : decode cX0_follow 0 = .ok (.aload_n 0, 1) := by decide +kernel
theorem dX0_follow_1 : decode cX0_follow 1 = .ok (.iload_n 1, 1) := by decide +kernel
theorem dX0_follow_2 : decode cX0_follow 2 = .ok (.invokevirtual 132, 3) := by decide +kernel
theorem dX0_follow_5 : decode cX0_follow 5 = .ok (.iconst 0, 1) := by decide +kernel
theorem dX0_follow_6 : decode cX0_follow 6 = .ok (.istore_n 2, 1) := by decide +kernel
theorem dX0_follow_7 : decode cX0_follow 7 = .ok (.iload_n 2, 1) := by decide +kernel
theorem dX0_follow_8 : decode cX0_follow 8 = .ok (.bipush 40, 2) := by decide +kernel
theorem dX0_follow_10 : decode cX0_follow 10 = .ok (.if_icmp .ge 41, 3) := by decide +kernel
theorem dX0_follow_13 : decode cX0_follow 13 = .ok (.aload_n 0, 1) := by decide +kernel
theorem dX0_follow_14 : decode cX0_follow 14 = .ok (.aload_n 0, 1) := by decide +kernel
theorem dX0_follow_15 : decode cX0_follow 15 = .ok (.getfield 41, 3) := by decide +kernel
theorem dX0_follow_18 : decode cX0_follow 18 = .ok (.iload_n 1, 1) := by decide +kernel
theorem dX0_follow_19 : decode cX0_follow 19 = .ok (.invokestatic 100, 3) := by decide +kernel
theorem dX0_follow_22 : decode cX0_follow 22 = .ok (.invokevirtual 135, 3) := by decide +kernel
theorem dX0_follow_25 : decode cX0_follow 25 = .ok (.ifCond .ne 26, 3) := by decide +kernel
theorem dX0_follow_28 : decode cX0_follow 28 = .ok (.aload_n 0, 1) := by decide +kernel
theorem dX0_follow_29 : decode cX0_follow 29 = .ok (.iload_n 1, 1) := by decide +kernel
theorem dX0_follow_30 : decode cX0_follow 30 = .ok (.aload_n 0, 1) := by decide +kernel
theorem dX0_follow_31 : decode cX0_follow 31 = .ok (.aload_n 0, 1) := by decide +kernel
theorem dX0_follow_32 : decode cX0_follow 32 = .ok (.getfield 41, 3) := by decide +kernel
theorem dX0_follow_35 : decode cX0_follow 35 = .ok (.iload_n 1, 1) := by decide +kernel
theorem dX0_follow_36 : decode cX0_follow 36 = .ok (.invokestatic 100, 3) := by decide +kernel
theorem dX0_follow_39 : decode cX0_follow 39 = .ok (.invokevirtual 150, 3) := by decide +kernel
theorem dX0_follow_42 : decode cX0_follow 42 = .ok (.invokevirtual 140, 3) := by decide +kernel
theorem dX0_follow_45 : decode cX0_follow 45 = .ok (.iinc 2 1, 3) := by decide +kernel
theorem dX0_follow_48 : decode cX0_follow 48 = .ok (.goto (-41), 3) := by decide +kernel
theorem dX0_follow_51 : decode cX0_follow 51 = .ok (.iload_n 2, 1) := by decide +kernel
theorem dX0_follow_52 : decode cX0_follow 52 = .ok (.ireturn, 1) := by decide +kernel
theorem dX0_places_0 : decode cX0_places 0 = .ok (.aload_n 0, 1) := by decide +kernel
theorem dX0_places_1 : decode cX0_places 1 = .ok (.getfield 60, 3) := by decide +kernel
theorem dX0_places_4 : decode cX0_places 4 = .ok (.ireturn, 1) := by decide +kernel
set_option maxRecDepth 20000 in
theorem ggX0_exams_J13_bitCount_95d88 : GoodIn wsX0_exams wsJ13_bitCount_95d88 := goodIn_r _ [5, 6, 7, 8] (by decide +kernel) (by decide +kernel)
set_option maxRecDepth 20000 in
theorem gX0_exams_J13_bitCount_95d88 : GoodIn wsX0_exams (va_wsS RX0 153 yJ13_bitCount_95d88 wsJ13_bitCount_95d88) := goodIn_app (goodIn_of _ (by decide +kernel)) ggX0_exams_J13_bitCount_95d88
theorem dX0_exams_0 : decode cX0_exams 0 = .ok (.aload_n 0, 1) := by decide +kernel
theorem dX0_exams_1 : decode cX0_exams 1 = .ok (.getfield 64, 3) := by decide +kernel
theorem dX0_exams_4 : decode cX0_exams 4 = .ok (.invokestatic 153, 3) := by decide +kernel
theorem dX0_exams_7 : decode cX0_exams 7 = .ok (.ireturn, 1) := by decide +kernel
theorem dX0_graded_0 : decode cX0_graded 0 = .ok (.aload_n 0, 1) := by decide +kernel
theorem dX0_graded_1 : decode cX0_graded 1 = .ok (.getfield 115, 3) := by decide +kernel
theorem dX0_graded_4 : decode cX0_graded 4 = .ok (.ireturn, 1) := by decide +kernel
theorem dX0_students_0 : decode cX0_students 0 = .ok (.aload_n 0, 1) := by decide +kernel
theorem dX0_students_1 : decode cX0_students 1 = .ok (.getfield 127, 3) := by decide +kernel
theorem dX0_students_4 : decode cX0_students 4 = .ok (.ireturn, 1) := by decide +kernel
set_option maxRecDepth 20000 in
theorem ggX0_atExams_X0_at : GoodIn wsX0_atExams wsX0_at := goodIn_r _ [6] (by decide +kernel) (by decide +kernel)
set_option maxRecDepth 20000 in
theorem gX0_atExams_X0_at : GoodIn wsX0_atExams (va_wsS RX0 100 yX0_at wsX0_at) := goodIn_app (goodIn_of _ (by decide +kernel)) ggX0_atExams_X0_at
set_option maxRecDepth 20000 in
theorem ggX0_atExams_X0_holdsExam : GoodIn wsX0_atExams wsX0_holdsExam := goodIn_r _ [10, 11, 12, 13, 5, 14, 15, 16, 17, 18, 19, 20, 21, 22, 23, 24, 25, 26, 27, 28, 29, 30, 31, 32] (by decide +kernel) (by decide +kernel)
set_option maxRecDepth 20000 in
theorem gX0_atExams_X0_holdsExam : GoodIn wsX0_atExams (wsV RX0 135 RX0 yX0_holdsExam wsX0_holdsExam) := goodIn_app (goodIn_of _ (by decide +kernel)) ggX0_atExams_X0_holdsExam
theorem dX0_atExams_0 : decode cX0_atExams 0 = .ok (.iconst 0, 1) := by decide +kernel
theorem dX0_atExams_1 : decode cX0_atExams 1 = .ok (.istore_n 1, 1) := by decide +kernel
theorem dX0_atExams_2 : decode cX0_atExams 2 = .ok (.iconst 0, 1) := by decide +kernel
theorem dX0_atExams_3 : decode cX0_atExams 3 = .ok (.istore_n 2, 1) := by decide +kernel
theorem dX0_atExams_4 : decode cX0_atExams 4 = .ok (.iload_n 2, 1) := by decide +kernel
theorem dX0_atExams_5 : decode cX0_atExams 5 = .ok (.aload_n 0, 1) := by decide +kernel
theorem dX0_atExams_6 : decode cX0_atExams 6 = .ok (.getfield 127, 3) := by decide +kernel
theorem dX0_atExams_9 : decode cX0_atExams 9 = .ok (.if_icmp .ge 27, 3) := by decide +kernel
theorem dX0_atExams_12 : decode cX0_atExams 12 = .ok (.aload_n 0, 1) := by decide +kernel
theorem dX0_atExams_13 : decode cX0_atExams 13 = .ok (.aload_n 0, 1) := by decide +kernel
theorem dX0_atExams_14 : decode cX0_atExams 14 = .ok (.getfield 41, 3) := by decide +kernel
theorem dX0_atExams_17 : decode cX0_atExams 17 = .ok (.iload_n 2, 1) := by decide +kernel
theorem dX0_atExams_18 : decode cX0_atExams 18 = .ok (.invokestatic 100, 3) := by decide +kernel
theorem dX0_atExams_21 : decode cX0_atExams 21 = .ok (.invokevirtual 135, 3) := by decide +kernel
theorem dX0_atExams_24 : decode cX0_atExams 24 = .ok (.ifCond .eq 6, 3) := by decide +kernel
theorem dX0_atExams_27 : decode cX0_atExams 27 = .ok (.iinc 1 1, 3) := by decide +kernel
theorem dX0_atExams_30 : decode cX0_atExams 30 = .ok (.iinc 2 1, 3) := by decide +kernel
theorem dX0_atExams_33 : decode cX0_atExams 33 = .ok (.goto (-29), 3) := by decide +kernel
theorem dX0_atExams_36 : decode cX0_atExams 36 = .ok (.iload_n 1, 1) := by decide +kernel
theorem dX0_atExams_37 : decode cX0_atExams 37 = .ok (.ireturn, 1) := by decide +kernel
set_option maxRecDepth 20000 in
theorem ggX0_isExam_X0_requirePlace : GoodIn wsX0_isExam wsX0_requirePlace := goodIn_ca (goodIn_r _ [5, 6, 7, 8, 17, 18, 19, 20, 21, 22, 23, 24, 25, 26, 27, 28, 29, 30, 31, 32, 33, 34] (by decide +kernel) (by decide +kernel)) (goodIn_sub (fun _ h => List.mem_cons_of_mem _ (List.mem_append_right _ h)) (by decide +kernel))
set_option maxRecDepth 20000 in
theorem gX0_isExam_X0_requirePlace : GoodIn wsX0_isExam (wsV RX0 84 RX0 yX0_requirePlace wsX0_requirePlace) := goodIn_app (goodIn_of _ (by decide +kernel)) ggX0_isExam_X0_requirePlace
set_option maxRecDepth 20000 in
theorem ggX0_isExam_X0_holdsExam : GoodIn wsX0_isExam wsX0_holdsExam := goodIn_r _ [12, 13, 14, 15, 4, 16, 17, 18, 19, 20, 21, 22, 23, 24, 25, 26, 27, 28, 29, 30, 31, 32, 33, 34] (by decide +kernel) (by decide +kernel)
set_option maxRecDepth 20000 in
theorem gX0_isExam_X0_holdsExam : GoodIn wsX0_isExam (wsV RX0 135 RX0 yX0_holdsExam wsX0_holdsExam) := goodIn_app (goodIn_of _ (by decide +kernel)) ggX0_isExam_X0_holdsExam
theorem dX0_isExam_0 : decode cX0_isExam 0 = .ok (.aload_n 0, 1) := by decide +kernel
theorem dX0_isExam_1 : decode cX0_isExam 1 = .ok (.iload_n 1, 1) := by decide +kernel
theorem dX0_isExam_2 : decode cX0_isExam 2 = .ok (.invokevirtual 84, 3) := by decide +kernel
theorem dX0_isExam_5 : decode cX0_isExam 5 = .ok (.aload_n 0, 1) := by decide +kernel
theorem dX0_isExam_6 : decode cX0_isExam 6 = .ok (.iload_n 1, 1) := by decide +kernel
theorem dX0_isExam_7 : decode cX0_isExam 7 = .ok (.invokevirtual 135, 3) := by decide +kernel
theorem dX0_isExam_10 : decode cX0_isExam 10 = .ok (.ireturn, 1) := by decide +kernel
set_option maxRecDepth 20000 in
theorem ggX0_isGraded_X0_requireExam : GoodIn wsX0_isGraded wsX0_requireExam := goodIn_ca (goodIn_r _ [5, 6, 7, 8, 9, 10, 4, 11, 12, 13, 14, 15, 16, 17, 18, 19, 20, 29, 30, 31, 32, 33, 34, 35, 36, 37, 38, 39, 40, 41, 42, 43, 44, 45, 46] (by decide +kernel) (by decide +kernel)) (goodIn_sub (fun _ h => List.mem_cons_of_mem _ (List.mem_append_right _ h)) (by decide +kernel))
set_option maxRecDepth 20000 in
theorem gX0_isGraded_X0_requireExam : GoodIn wsX0_isGraded (wsV RX0 97 RX0 yX0_requireExam wsX0_requireExam) := goodIn_app (goodIn_of _ (by decide +kernel)) ggX0_isGraded_X0_requireExam
set_option maxRecDepth 20000 in
theorem ggX0_isGraded_X0_hasGrade : GoodIn wsX0_isGraded wsX0_hasGrade := goodIn_r _ [24, 25, 26, 27, 4, 28, 29, 30, 31, 32, 33, 34, 35, 36, 37, 38, 39, 40, 41, 42, 43, 44, 45, 46] (by decide +kernel) (by decide +kernel)
set_option maxRecDepth 20000 in
theorem gX0_isGraded_X0_hasGrade : GoodIn wsX0_isGraded (wsV RX0 106 RX0 yX0_hasGrade wsX0_hasGrade) := goodIn_app (goodIn_of _ (by decide +kernel)) ggX0_isGraded_X0_hasGrade
theorem dX0_isGraded_0 : decode cX0_isGraded 0 = .ok (.aload_n 0, 1) := by decide +kernel
theorem dX0_isGraded_1 : decode cX0_isGraded 1 = .ok (.iload_n 1, 1) := by decide +kernel
theorem dX0_isGraded_2 : decode cX0_isGraded 2 = .ok (.invokevirtual 97, 3) := by decide +kernel
theorem dX0_isGraded_5 : decode cX0_isGraded 5 = .ok (.aload_n 0, 1) := by decide +kernel
theorem dX0_isGraded_6 : decode cX0_isGraded 6 = .ok (.iload_n 1, 1) := by decide +kernel
theorem dX0_isGraded_7 : decode cX0_isGraded 7 = .ok (.invokevirtual 106, 3) := by decide +kernel
theorem dX0_isGraded_10 : decode cX0_isGraded 10 = .ok (.ireturn, 1) := by decide +kernel
set_option maxRecDepth 20000 in
theorem ggX0_gradeOf_X0_requireExam : GoodIn wsX0_gradeOf wsX0_requireExam := goodIn_ca (goodIn_r _ [6, 7, 8, 9, 10, 11, 5, 12, 13, 14, 15, 16, 17, 18, 19, 20, 21, 25, 26, 27, 28, 29, 30, 31, 32, 33, 34, 35, 36, 37, 38, 39, 40, 41, 42] (by decide +kernel) (by decide +kernel)) (goodIn_sub (fun _ h => List.mem_cons_of_mem _ (List.mem_append_right _ h)) (by decide +kernel))
set_option maxRecDepth 20000 in
theorem gX0_gradeOf_X0_requireExam : GoodIn wsX0_gradeOf (wsV RX0 97 RX0 yX0_requireExam wsX0_requireExam) := goodIn_app (goodIn_of _ (by decide +kernel)) ggX0_gradeOf_X0_requireExam
set_option maxRecDepth 20000 in
theorem ggX0_gradeOf_X0_at : GoodIn wsX0_gradeOf wsX0_at := goodIn_r _ [24] (by decide +kernel) (by decide +kernel)
set_option maxRecDepth 20000 in
theorem gX0_gradeOf_X0_at : GoodIn wsX0_gradeOf (va_wsS RX0 100 yX0_at wsX0_at) := goodIn_app (goodIn_of _ (by decide +kernel)) ggX0_gradeOf_X0_at
theorem dX0_gradeOf_0 : decode cX0_gradeOf 0 = .ok (.aload_n 0, 1) := by decide +kernel
theorem dX0_gradeOf_1 : decode cX0_gradeOf 1 = .ok (.iload_n 1, 1) := by decide +kernel
theorem dX0_gradeOf_2 : decode cX0_gradeOf 2 = .ok (.invokevirtual 97, 3) := by decide +kernel
theorem dX0_gradeOf_5 : decode cX0_gradeOf 5 = .ok (.aload_n 0, 1) := by decide +kernel
theorem dX0_gradeOf_6 : decode cX0_gradeOf 6 = .ok (.getfield 25, 3) := by decide +kernel
theorem dX0_gradeOf_9 : decode cX0_gradeOf 9 = .ok (.iload_n 1, 1) := by decide +kernel
theorem dX0_gradeOf_10 : decode cX0_gradeOf 10 = .ok (.invokestatic 100, 3) := by decide +kernel
theorem dX0_gradeOf_13 : decode cX0_gradeOf 13 = .ok (.ireturn, 1) := by decide +kernel
set_option maxRecDepth 20000 in
theorem ggX0_leftOf_X0_requireFork : GoodIn wsX0_leftOf wsX0_requireFork := goodIn_ca (goodIn_r _ [6, 7, 8, 9, 10, 11, 5, 12, 13, 14, 15, 16, 17, 18, 19, 20, 21, 25, 26, 27, 28, 29, 30, 31, 32, 33, 34, 35, 36, 37, 38, 39, 40, 41, 42] (by decide +kernel) (by decide +kernel)) (goodIn_sub (fun _ h => List.mem_cons_of_mem _ (List.mem_append_right _ h)) (by decide +kernel))
set_option maxRecDepth 20000 in
theorem gX0_leftOf_X0_requireFork : GoodIn wsX0_leftOf (wsV RX0 124 RX0 yX0_requireFork wsX0_requireFork) := goodIn_app (goodIn_of _ (by decide +kernel)) ggX0_leftOf_X0_requireFork
set_option maxRecDepth 20000 in
theorem ggX0_leftOf_X0_at : GoodIn wsX0_leftOf wsX0_at := goodIn_r _ [24] (by decide +kernel) (by decide +kernel)
set_option maxRecDepth 20000 in
theorem gX0_leftOf_X0_at : GoodIn wsX0_leftOf (va_wsS RX0 100 yX0_at wsX0_at) := goodIn_app (goodIn_of _ (by decide +kernel)) ggX0_leftOf_X0_at
theorem dX0_leftOf_0 : decode cX0_leftOf 0 = .ok (.aload_n 0, 1) := by decide +kernel
theorem dX0_leftOf_1 : decode cX0_leftOf 1 = .ok (.iload_n 1, 1) := by decide +kernel
theorem dX0_leftOf_2 : decode cX0_leftOf 2 = .ok (.invokevirtual 124, 3) := by decide +kernel
theorem dX0_leftOf_5 : decode cX0_leftOf 5 = .ok (.aload_n 0, 1) := by decide +kernel
theorem dX0_leftOf_6 : decode cX0_leftOf 6 = .ok (.getfield 16, 3) := by decide +kernel
theorem dX0_leftOf_9 : decode cX0_leftOf 9 = .ok (.iload_n 1, 1) := by decide +kernel
theorem dX0_leftOf_10 : decode cX0_leftOf 10 = .ok (.invokestatic 100, 3) := by decide +kernel
theorem dX0_leftOf_13 : decode cX0_leftOf 13 = .ok (.ireturn, 1) := by decide +kernel
set_option maxRecDepth 20000 in
theorem ggX0_rightOf_X0_requireFork : GoodIn wsX0_rightOf wsX0_requireFork := goodIn_ca (goodIn_r _ [6, 7, 8, 9, 10, 11, 5, 12, 13, 14, 15, 16, 17, 18, 19, 20, 21, 25, 26, 27, 28, 29, 30, 31, 32, 33, 34, 35, 36, 37, 38, 39, 40, 41, 42] (by decide +kernel) (by decide +kernel)) (goodIn_sub (fun _ h => List.mem_cons_of_mem _ (List.mem_append_right _ h)) (by decide +kernel))
set_option maxRecDepth 20000 in
theorem gX0_rightOf_X0_requireFork : GoodIn wsX0_rightOf (wsV RX0 124 RX0 yX0_requireFork wsX0_requireFork) := goodIn_app (goodIn_of _ (by decide +kernel)) ggX0_rightOf_X0_requireFork
set_option maxRecDepth 20000 in
theorem ggX0_rightOf_X0_at : GoodIn wsX0_rightOf wsX0_at := goodIn_r _ [24] (by decide +kernel) (by decide +kernel)
set_option maxRecDepth 20000 in
theorem gX0_rightOf_X0_at : GoodIn wsX0_rightOf (va_wsS RX0 100 yX0_at wsX0_at) := goodIn_app (goodIn_of _ (by decide +kernel)) ggX0_rightOf_X0_at
theorem dX0_rightOf_0 : decode cX0_rightOf 0 = .ok (.aload_n 0, 1) := by decide +kernel
theorem dX0_rightOf_1 : decode cX0_rightOf 1 = .ok (.iload_n 1, 1) := by decide +kernel
theorem dX0_rightOf_2 : decode cX0_rightOf 2 = .ok (.invokevirtual 124, 3) := by decide +kernel
theorem dX0_rightOf_5 : decode cX0_rightOf 5 = .ok (.aload_n 0, 1) := by decide +kernel
theorem dX0_rightOf_6 : decode cX0_rightOf 6 = .ok (.getfield 19, 3) := by decide +kernel
theorem dX0_rightOf_9 : decode cX0_rightOf 9 = .ok (.iload_n 1, 1) := by decide +kernel
theorem dX0_rightOf_10 : decode cX0_rightOf 10 = .ok (.invokestatic 100, 3) := by decide +kernel
theorem dX0_rightOf_13 : decode cX0_rightOf 13 = .ok (.ireturn, 1) := by decide +kernel
set_option maxRecDepth 20000 in
theorem ggX0_weightOf_X0_requireFork : GoodIn wsX0_weightOf wsX0_requireFork := goodIn_ca (goodIn_r _ [6, 7, 8, 9, 10, 11, 5, 12, 13, 14, 15, 16, 17, 18, 19, 20, 21, 25, 26, 27, 28, 29, 30, 31, 32, 33, 34, 35, 36, 37, 38, 39, 40, 41, 42] (by decide +kernel) (by decide +kernel)) (goodIn_sub (fun _ h => List.mem_cons_of_mem _ (List.mem_append_right _ h)) (by decide +kernel))
set_option maxRecDepth 20000 in
theorem gX0_weightOf_X0_requireFork : GoodIn wsX0_weightOf (wsV RX0 124 RX0 yX0_requireFork wsX0_requireFork) := goodIn_app (goodIn_of _ (by decide +kernel)) ggX0_weightOf_X0_requireFork
set_option maxRecDepth 20000 in
theorem ggX0_weightOf_X0_at : GoodIn wsX0_weightOf wsX0_at := goodIn_r _ [24] (by decide +kernel) (by decide +kernel)
set_option maxRecDepth 20000 in
theorem gX0_weightOf_X0_at : GoodIn wsX0_weightOf (va_wsS RX0 100 yX0_at wsX0_at) := goodIn_app (goodIn_of _ (by decide +kernel)) ggX0_weightOf_X0_at
theorem dX0_weightOf_0 : decode cX0_weightOf 0 = .ok (.aload_n 0, 1) := by decide +kernel
theorem dX0_weightOf_1 : decode cX0_weightOf 1 = .ok (.iload_n 1, 1) := by decide +kernel
theorem dX0_weightOf_2 : decode cX0_weightOf 2 = .ok (.invokevirtual 124, 3) := by decide +kernel
theorem dX0_weightOf_5 : decode cX0_weightOf 5 = .ok (.aload_n 0, 1) := by decide +kernel
theorem dX0_weightOf_6 : decode cX0_weightOf 6 = .ok (.getfield 22, 3) := by decide +kernel
theorem dX0_weightOf_9 : decode cX0_weightOf 9 = .ok (.iload_n 1, 1) := by decide +kernel
theorem dX0_weightOf_10 : decode cX0_weightOf 10 = .ok (.invokestatic 100, 3) := by decide +kernel
theorem dX0_weightOf_13 : decode cX0_weightOf 13 = .ok (.ireturn, 1) := by decide +kernel
set_option maxRecDepth 20000 in
theorem ggX0_placeOf_X0_requireStudent : GoodIn wsX0_placeOf wsX0_requireStudent := goodIn_ca (goodIn_r _ [6, 7, 8, 9, 13, 14, 15, 16, 17, 18, 19, 20, 21, 22, 23, 24, 25, 26, 27, 28, 29, 30] (by decide +kernel) (by decide +kernel)) (goodIn_sub (fun _ h => List.mem_cons_of_mem _ (List.mem_append_right _ h)) (by decide +kernel))
set_option maxRecDepth 20000 in
theorem gX0_placeOf_X0_requireStudent : GoodIn wsX0_placeOf (wsV RX0 132 RX0 yX0_requireStudent wsX0_requireStudent) := goodIn_app (goodIn_of _ (by decide +kernel)) ggX0_placeOf_X0_requireStudent
set_option maxRecDepth 20000 in
theorem ggX0_placeOf_X0_at : GoodIn wsX0_placeOf wsX0_at := goodIn_r _ [12] (by decide +kernel) (by decide +kernel)
set_option maxRecDepth 20000 in
theorem gX0_placeOf_X0_at : GoodIn wsX0_placeOf (va_wsS RX0 100 yX0_at wsX0_at) := goodIn_app (goodIn_of _ (by decide +kernel)) ggX0_placeOf_X0_at
theorem dX0_placeOf_0 : decode cX0_placeOf 0 = .ok (.aload_n 0, 1) := by decide +kernel
theorem dX0_placeOf_1 : decode cX0_placeOf 1 = .ok (.iload_n 1, 1) := by decide +kernel
theorem dX0_placeOf_2 : decode cX0_placeOf 2 = .ok (.invokevirtual 132, 3) := by decide +kernel
theorem dX0_placeOf_5 : decode cX0_placeOf 5 = .ok (.aload_n 0, 1) := by decide +kernel
theorem dX0_placeOf_6 : decode cX0_placeOf 6 = .ok (.getfield 41, 3) := by decide +kernel
theorem dX0_placeOf_9 : decode cX0_placeOf 9 = .ok (.iload_n 1, 1) := by decide +kernel
theorem dX0_placeOf_10 : decode cX0_placeOf 10 = .ok (.invokestatic 100, 3) := by decide +kernel
theorem dX0_placeOf_13 : decode cX0_placeOf 13 = .ok (.ireturn, 1) := by decide +kernel
set_option maxRecDepth 20000 in
theorem ggX0_passedBy_X0_requireStudent : GoodIn wsX0_passedBy wsX0_requireStudent := goodIn_ca (goodIn_r _ [6, 7, 8, 9, 13, 14, 15, 16, 17, 18, 19, 20, 21, 22, 23, 24, 25, 26, 27, 28, 29, 30] (by decide +kernel) (by decide +kernel)) (goodIn_sub (fun _ h => List.mem_cons_of_mem _ (List.mem_append_right _ h)) (by decide +kernel))
set_option maxRecDepth 20000 in
theorem gX0_passedBy_X0_requireStudent : GoodIn wsX0_passedBy (wsV RX0 132 RX0 yX0_requireStudent wsX0_requireStudent) := goodIn_app (goodIn_of _ (by decide +kernel)) ggX0_passedBy_X0_requireStudent
set_option maxRecDepth 20000 in
theorem ggX0_passedBy_X0_at : GoodIn wsX0_passedBy wsX0_at := goodIn_r _ [12] (by decide +kernel) (by decide +kernel)
set_option maxRecDepth 20000 in
theorem gX0_passedBy_X0_at : GoodIn wsX0_passedBy (va_wsS RX0 100 yX0_at wsX0_at) := goodIn_app (goodIn_of _ (by decide +kernel)) ggX0_passedBy_X0_at
theorem dX0_passedBy_0 : decode cX0_passedBy 0 = .ok (.aload_n 0, 1) := by decide +kernel
theorem dX0_passedBy_1 : decode cX0_passedBy 1 = .ok (.iload_n 1, 1) := by decide +kernel
theorem dX0_passedBy_2 : decode cX0_passedBy 2 = .ok (.invokevirtual 132, 3) := by decide +kernel
theorem dX0_passedBy_5 : decode cX0_passedBy 5 = .ok (.aload_n 0, 1) := by decide +kernel
theorem dX0_passedBy_6 : decode cX0_passedBy 6 = .ok (.getfield 44, 3) := by decide +kernel
theorem dX0_passedBy_9 : decode cX0_passedBy 9 = .ok (.iload_n 1, 1) := by decide +kernel
theorem dX0_passedBy_10 : decode cX0_passedBy 10 = .ok (.invokestatic 100, 3) := by decide +kernel
theorem dX0_passedBy_13 : decode cX0_passedBy 13 = .ok (.ireturn, 1) := by decide +kernel
set_option maxRecDepth 20000 in
theorem ggX0_sureGrade_X0_requirePlace : GoodIn wsX0_sureGrade wsX0_requirePlace := goodIn_ca (goodIn_r _ [6, 7, 8, 9, 13, 14, 15, 16, 17, 18, 19, 20, 21, 22, 23, 24, 25, 26, 27, 28, 29, 30] (by decide +kernel) (by decide +kernel)) (goodIn_sub (fun _ h => List.mem_cons_of_mem _ (List.mem_append_right _ h)) (by decide +kernel))
set_option maxRecDepth 20000 in
theorem gX0_sureGrade_X0_requirePlace : GoodIn wsX0_sureGrade (wsV RX0 84 RX0 yX0_requirePlace wsX0_requirePlace) := goodIn_app (goodIn_of _ (by decide +kernel)) ggX0_sureGrade_X0_requirePlace
set_option maxRecDepth 20000 in
theorem ggX0_sureGrade_X0_at : GoodIn wsX0_sureGrade wsX0_at := goodIn_r _ [12] (by decide +kernel) (by decide +kernel)
set_option maxRecDepth 20000 in
theorem gX0_sureGrade_X0_at : GoodIn wsX0_sureGrade (va_wsS RX0 100 yX0_at wsX0_at) := goodIn_app (goodIn_of _ (by decide +kernel)) ggX0_sureGrade_X0_at
theorem dX0_sureGrade_0 : decode cX0_sureGrade 0 = .ok (.aload_n 0, 1) := by decide +kernel
theorem dX0_sureGrade_1 : decode cX0_sureGrade 1 = .ok (.iload_n 1, 1) := by decide +kernel
theorem dX0_sureGrade_2 : decode cX0_sureGrade 2 = .ok (.invokevirtual 84, 3) := by decide +kernel
theorem dX0_sureGrade_5 : decode cX0_sureGrade 5 = .ok (.aload_n 0, 1) := by decide +kernel
theorem dX0_sureGrade_6 : decode cX0_sureGrade 6 = .ok (.getfield 28, 3) := by decide +kernel
theorem dX0_sureGrade_9 : decode cX0_sureGrade 9 = .ok (.iload_n 1, 1) := by decide +kernel
theorem dX0_sureGrade_10 : decode cX0_sureGrade 10 = .ok (.invokestatic 100, 3) := by decide +kernel
theorem dX0_sureGrade_13 : decode cX0_sureGrade 13 = .ok (.ireturn, 1) := by decide +kernel
set_option maxRecDepth 20000 in
theorem ggX0_hope_X0_requirePlace : GoodIn wsX0_hope wsX0_requirePlace := goodIn_ca (goodIn_r _ [6, 7, 8, 9, 13, 14, 15, 16, 17, 18, 19, 20, 21, 22, 23, 24, 25, 26, 27, 28, 29, 30] (by decide +kernel) (by decide +kernel)) (goodIn_sub (fun _ h => List.mem_cons_of_mem _ (List.mem_append_right _ h)) (by decide +kernel))
set_option maxRecDepth 20000 in
theorem gX0_hope_X0_requirePlace : GoodIn wsX0_hope (wsV RX0 84 RX0 yX0_requirePlace wsX0_requirePlace) := goodIn_app (goodIn_of _ (by decide +kernel)) ggX0_hope_X0_requirePlace
set_option maxRecDepth 20000 in
theorem ggX0_hope_X0_at : GoodIn wsX0_hope wsX0_at := goodIn_r _ [12] (by decide +kernel) (by decide +kernel)
set_option maxRecDepth 20000 in
theorem gX0_hope_X0_at : GoodIn wsX0_hope (va_wsS RX0 100 yX0_at wsX0_at) := goodIn_app (goodIn_of _ (by decide +kernel)) ggX0_hope_X0_at
theorem dX0_hope_0 : decode cX0_hope 0 = .ok (.aload_n 0, 1) := by decide +kernel
theorem dX0_hope_1 : decode cX0_hope 1 = .ok (.iload_n 1, 1) := by decide +kernel
theorem dX0_hope_2 : decode cX0_hope 2 = .ok (.invokevirtual 84, 3) := by decide +kernel
theorem dX0_hope_5 : decode cX0_hope 5 = .ok (.aload_n 0, 1) := by decide +kernel
theorem dX0_hope_6 : decode cX0_hope 6 = .ok (.getfield 31, 3) := by decide +kernel
theorem dX0_hope_9 : decode cX0_hope 9 = .ok (.iload_n 1, 1) := by decide +kernel
theorem dX0_hope_10 : decode cX0_hope 10 = .ok (.invokestatic 100, 3) := by decide +kernel
theorem dX0_hope_13 : decode cX0_hope 13 = .ok (.ireturn, 1) := by decide +kernel
set_option maxRecDepth 20000 in
theorem ggX0_reaches_X0_requirePlace : GoodIn wsX0_reaches wsX0_requirePlace := goodIn_ca (goodIn_r _ [6, 7, 8, 9, 16, 17, 18, 19, 20, 21, 22, 23, 24, 25, 26, 27, 28, 29, 30, 31, 32, 33] (by decide +kernel) (by decide +kernel)) (goodIn_sub (fun _ h => List.mem_cons_of_mem _ (List.mem_append_right _ h)) (by decide +kernel))
set_option maxRecDepth 20000 in
theorem gX0_reaches_X0_requirePlace : GoodIn wsX0_reaches (wsV RX0 84 RX0 yX0_requirePlace wsX0_requirePlace) := goodIn_app (goodIn_of _ (by decide +kernel)) ggX0_reaches_X0_requirePlace
set_option maxRecDepth 20000 in
theorem ggX0_reaches_X0_bitsAt : GoodIn wsX0_reaches wsX0_bitsAt := goodIn_r _ [12] (by decide +kernel) (by decide +kernel)
set_option maxRecDepth 20000 in
theorem gX0_reaches_X0_bitsAt : GoodIn wsX0_reaches (va_wsS RX0 90 yX0_bitsAt wsX0_bitsAt) := goodIn_app (goodIn_of _ (by decide +kernel)) ggX0_reaches_X0_bitsAt
set_option maxRecDepth 20000 in
theorem ggX0_reaches_X0_bitOf : GoodIn wsX0_reaches wsX0_bitOf := goodIn_r _ [15] (by decide +kernel) (by decide +kernel)
set_option maxRecDepth 20000 in
theorem gX0_reaches_X0_bitOf : GoodIn wsX0_reaches (va_wsS RX0 68 yX0_bitOf wsX0_bitOf) := goodIn_app (goodIn_of _ (by decide +kernel)) ggX0_reaches_X0_bitOf
theorem dX0_reaches_0 : decode cX0_reaches 0 = .ok (.aload_n 0, 1) := by decide +kernel
theorem dX0_reaches_1 : decode cX0_reaches 1 = .ok (.iload_n 1, 1) := by decide +kernel
theorem dX0_reaches_2 : decode cX0_reaches 2 = .ok (.invokevirtual 84, 3) := by decide +kernel
theorem dX0_reaches_5 : decode cX0_reaches 5 = .ok (.aload_n 0, 1) := by decide +kernel
theorem dX0_reaches_6 : decode cX0_reaches 6 = .ok (.iload_n 2, 1) := by decide +kernel
theorem dX0_reaches_7 : decode cX0_reaches 7 = .ok (.invokevirtual 84, 3) := by decide +kernel
theorem dX0_reaches_10 : decode cX0_reaches 10 = .ok (.aload_n 0, 1) := by decide +kernel
theorem dX0_reaches_11 : decode cX0_reaches 11 = .ok (.getfield 37, 3) := by decide +kernel
theorem dX0_reaches_14 : decode cX0_reaches 14 = .ok (.iload_n 1, 1) := by decide +kernel
theorem dX0_reaches_15 : decode cX0_reaches 15 = .ok (.invokestatic 90, 3) := by decide +kernel
theorem dX0_reaches_18 : decode cX0_reaches 18 = .ok (.iload_n 2, 1) := by decide +kernel
theorem dX0_reaches_19 : decode cX0_reaches 19 = .ok (.invokestatic 68, 3) := by decide +kernel
theorem dX0_reaches_22 : decode cX0_reaches 22 = .ok (.land, 1) := by decide +kernel
theorem dX0_reaches_23 : decode cX0_reaches 23 = .ok (.lconst 0, 1) := by decide +kernel
theorem dX0_reaches_24 : decode cX0_reaches 24 = .ok (.lcmp, 1) := by decide +kernel
theorem dX0_reaches_25 : decode cX0_reaches 25 = .ok (.ifCond .eq 7, 3) := by decide +kernel
theorem dX0_reaches_28 : decode cX0_reaches 28 = .ok (.iconst 1, 1) := by decide +kernel
theorem dX0_reaches_29 : decode cX0_reaches 29 = .ok (.goto 4, 3) := by decide +kernel
theorem dX0_reaches_32 : decode cX0_reaches 32 = .ok (.iconst 0, 1) := by decide +kernel
theorem dX0_reaches_33 : decode cX0_reaches 33 = .ok (.ireturn, 1) := by decide +kernel
set_option maxRecDepth 20000 in
theorem ggX0_examsFrom_X0_requirePlace : GoodIn wsX0_examsFrom wsX0_requirePlace := goodIn_ca (goodIn_r _ [7, 8, 9, 10, 21, 22, 23, 24, 25, 26, 27, 28, 29, 30, 31, 32, 33, 34, 35, 36, 37, 38] (by decide +kernel) (by decide +kernel)) (goodIn_sub (fun _ h => List.mem_cons_of_mem _ (List.mem_append_right _ h)) (by decide +kernel))
set_option maxRecDepth 20000 in
theorem gX0_examsFrom_X0_requirePlace : GoodIn wsX0_examsFrom (wsV RX0 84 RX0 yX0_requirePlace wsX0_requirePlace) := goodIn_app (goodIn_of _ (by decide +kernel)) ggX0_examsFrom_X0_requirePlace
set_option maxRecDepth 20000 in
theorem ggX0_examsFrom_X0_bitsAt : GoodIn wsX0_examsFrom wsX0_bitsAt := goodIn_r _ [13] (by decide +kernel) (by decide +kernel)
set_option maxRecDepth 20000 in
theorem gX0_examsFrom_X0_bitsAt : GoodIn wsX0_examsFrom (va_wsS RX0 90 yX0_bitsAt wsX0_bitsAt) := goodIn_app (goodIn_of _ (by decide +kernel)) ggX0_examsFrom_X0_bitsAt
set_option maxRecDepth 20000 in
theorem ggX0_examsFrom_J13_bitCount_95d88 : GoodIn wsX0_examsFrom wsJ13_bitCount_95d88 := goodIn_r _ [17, 18, 19, 20] (by decide +kernel) (by decide +kernel)
set_option maxRecDepth 20000 in
theorem gX0_examsFrom_J13_bitCount_95d88 : GoodIn wsX0_examsFrom (va_wsS RX0 153 yJ13_bitCount_95d88 wsJ13_bitCount_95d88) := goodIn_app (goodIn_of _ (by decide +kernel)) ggX0_examsFrom_J13_bitCount_95d88
theorem dX0_examsFrom_0 : decode cX0_examsFrom 0 = .ok (.aload_n 0, 1) := by decide +kernel
theorem dX0_examsFrom_1 : decode cX0_examsFrom 1 = .ok (.iload_n 1, 1) := by decide +kernel
theorem dX0_examsFrom_2 : decode cX0_examsFrom 2 = .ok (.invokevirtual 84, 3) := by decide +kernel
theorem dX0_examsFrom_5 : decode cX0_examsFrom 5 = .ok (.aload_n 0, 1) := by decide +kernel
theorem dX0_examsFrom_6 : decode cX0_examsFrom 6 = .ok (.getfield 37, 3) := by decide +kernel
theorem dX0_examsFrom_9 : decode cX0_examsFrom 9 = .ok (.iload_n 1, 1) := by decide +kernel
theorem dX0_examsFrom_10 : decode cX0_examsFrom 10 = .ok (.invokestatic 90, 3) := by decide +kernel
theorem dX0_examsFrom_13 : decode cX0_examsFrom 13 = .ok (.aload_n 0, 1) := by decide +kernel
theorem dX0_examsFrom_14 : decode cX0_examsFrom 14 = .ok (.getfield 64, 3) := by decide +kernel
theorem dX0_examsFrom_17 : decode cX0_examsFrom 17 = .ok (.land, 1) := by decide +kernel
theorem dX0_examsFrom_18 : decode cX0_examsFrom 18 = .ok (.invokestatic 153, 3) := by decide +kernel
theorem dX0_examsFrom_21 : decode cX0_examsFrom 21 = .ok (.ireturn, 1) := by decide +kernel
set_option maxRecDepth 20000 in
theorem ggX0_risk_X0_requireFork : GoodIn wsX0_risk wsX0_requireFork := goodIn_ca (goodIn_r _ [5, 6, 7, 8, 9, 10, 4, 11, 12, 13, 14, 15, 16, 17, 18, 19, 20, 41, 42, 43, 44, 45, 46, 47, 48, 49, 50, 51, 52, 53, 54, 55, 56, 57, 58] (by decide +kernel) (by decide +kernel)) (goodIn_sub (fun _ h => List.mem_cons_of_mem _ (List.mem_append_right _ h)) (by decide +kernel))
set_option maxRecDepth 20000 in
theorem gX0_risk_X0_requireFork : GoodIn wsX0_risk (wsV RX0 124 RX0 yX0_requireFork wsX0_requireFork) := goodIn_app (goodIn_of _ (by decide +kernel)) ggX0_risk_X0_requireFork
set_option maxRecDepth 20000 in
theorem ggX0_risk_X0_riskOfPath : GoodIn wsX0_risk wsX0_riskOfPath := goodIn_r _ [24, 25, 26, 27, 28, 29, 30, 31, 32, 33, 34, 4, 35, 36, 37, 38, 39, 40, 41, 42, 43, 44, 45, 46, 47, 48, 49, 50, 51, 52, 53, 54, 55, 56, 57, 58] (by decide +kernel) (by decide +kernel)
set_option maxRecDepth 20000 in
theorem gX0_risk_X0_riskOfPath : GoodIn wsX0_risk (wsV RX0 159 RX0 yX0_riskOfPath wsX0_riskOfPath) := goodIn_app (goodIn_of _ (by decide +kernel)) ggX0_risk_X0_riskOfPath
theorem dX0_risk_0 : decode cX0_risk 0 = .ok (.aload_n 0, 1) := by decide +kernel
theorem dX0_risk_1 : decode cX0_risk 1 = .ok (.iload_n 1, 1) := by decide +kernel
theorem dX0_risk_2 : decode cX0_risk 2 = .ok (.invokevirtual 124, 3) := by decide +kernel
theorem dX0_risk_5 : decode cX0_risk 5 = .ok (.aload_n 0, 1) := by decide +kernel
theorem dX0_risk_6 : decode cX0_risk 6 = .ok (.iload_n 1, 1) := by decide +kernel
theorem dX0_risk_7 : decode cX0_risk 7 = .ok (.iload_n 2, 1) := by decide +kernel
theorem dX0_risk_8 : decode cX0_risk 8 = .ok (.invokevirtual 159, 3) := by decide +kernel
theorem dX0_risk_11 : decode cX0_risk 11 = .ok (.ireturn, 1) := by decide +kernel
set_option maxRecDepth 20000 in
theorem ggX0_planTurnsRight_X0_requireFork : GoodIn wsX0_planTurnsRight wsX0_requireFork := goodIn_ca (goodIn_r _ [5, 6, 7, 8, 9, 10, 4, 11, 12, 13, 14, 15, 16, 17, 18, 19, 20, 45, 46, 47, 48, 49, 50, 51, 52, 53, 54, 55, 56, 57, 58, 59, 60, 61, 62] (by decide +kernel) (by decide +kernel)) (goodIn_sub (fun _ h => List.mem_cons_of_mem _ (List.mem_append_right _ h)) (by decide +kernel))
set_option maxRecDepth 20000 in
theorem gX0_planTurnsRight_X0_requireFork : GoodIn wsX0_planTurnsRight (wsV RX0 124 RX0 yX0_requireFork wsX0_requireFork) := goodIn_app (goodIn_of _ (by decide +kernel)) ggX0_planTurnsRight_X0_requireFork
set_option maxRecDepth 20000 in
theorem ggX0_planTurnsRight_X0_plansRight : GoodIn wsX0_planTurnsRight wsX0_plansRight := goodIn_r _ [24, 25, 26, 27, 4, 28, 29, 30, 31, 32, 33, 34, 35, 36, 37, 38, 39, 40, 41, 42, 43, 44, 45, 46, 47, 48, 49, 50, 51, 52, 53, 54, 55, 56, 57, 58, 59, 60, 61, 62] (by decide +kernel) (by decide +kernel)
set_option maxRecDepth 20000 in
theorem gX0_planTurnsRight_X0_plansRight : GoodIn wsX0_planTurnsRight (wsV RX0 150 RX0 yX0_plansRight wsX0_plansRight) := goodIn_app (goodIn_of _ (by decide +kernel)) ggX0_planTurnsRight_X0_plansRight
theorem dX0_planTurnsRight_0 : decode cX0_planTurnsRight 0 = .ok (.aload_n 0, 1) := by decide +kernel
theorem dX0_planTurnsRight_1 : decode cX0_planTurnsRight 1 = .ok (.iload_n 1, 1) := by decide +kernel
theorem dX0_planTurnsRight_2 : decode cX0_planTurnsRight 2 = .ok (.invokevirtual 124, 3) := by decide +kernel
theorem dX0_planTurnsRight_5 : decode cX0_planTurnsRight 5 = .ok (.aload_n 0, 1) := by decide +kernel
theorem dX0_planTurnsRight_6 : decode cX0_planTurnsRight 6 = .ok (.iload_n 1, 1) := by decide +kernel
theorem dX0_planTurnsRight_7 : decode cX0_planTurnsRight 7 = .ok (.invokevirtual 150, 3) := by decide +kernel
theorem dX0_planTurnsRight_10 : decode cX0_planTurnsRight 10 = .ok (.ireturn, 1) := by decide +kernel
set_option maxRecDepth 20000 in
theorem ggX0_planLeadsTo_X0_requirePlace : GoodIn wsX0_planLeadsTo wsX0_requirePlace := goodIn_ca (goodIn_r _ [5, 6, 7, 8, 41, 42, 43, 44, 45, 46, 47, 48, 49, 50, 51, 52, 53, 54, 55, 56, 57, 58] (by decide +kernel) (by decide +kernel)) (goodIn_sub (fun _ h => List.mem_cons_of_mem _ (List.mem_append_right _ h)) (by decide +kernel))
set_option maxRecDepth 20000 in
theorem gX0_planLeadsTo_X0_requirePlace : GoodIn wsX0_planLeadsTo (wsV RX0 84 RX0 yX0_requirePlace wsX0_requirePlace) := goodIn_app (goodIn_of _ (by decide +kernel)) ggX0_planLeadsTo_X0_requirePlace
set_option maxRecDepth 20000 in
theorem ggX0_planLeadsTo_X0_holdsExam : GoodIn wsX0_planLeadsTo wsX0_holdsExam := goodIn_r _ [12, 13, 14, 15, 4, 16, 41, 42, 43, 44, 45, 46, 47, 48, 49, 50, 51, 52, 53, 54, 55, 56, 57, 58] (by decide +kernel) (by decide +kernel)
set_option maxRecDepth 20000 in
theorem gX0_planLeadsTo_X0_holdsExam : GoodIn wsX0_planLeadsTo (wsV RX0 135 RX0 yX0_holdsExam wsX0_holdsExam) := goodIn_app (goodIn_of _ (by decide +kernel)) ggX0_planLeadsTo_X0_holdsExam
set_option maxRecDepth 20000 in
theorem ggX0_planLeadsTo_X0_plansRight : GoodIn wsX0_planLeadsTo wsX0_plansRight := goodIn_r _ [20, 21, 22, 23, 4, 24, 25, 26, 27, 28, 29, 30, 31, 32, 33, 34, 35, 36, 37, 38, 39, 40, 41, 42, 43, 44, 45, 46, 47, 48, 49, 50, 51, 52, 53, 54, 55, 56, 57, 58] (by decide +kernel) (by decide +kernel)
set_option maxRecDepth 20000 in
theorem gX0_planLeadsTo_X0_plansRight : GoodIn wsX0_planLeadsTo (wsV RX0 150 RX0 yX0_plansRight wsX0_plansRight) := goodIn_app (goodIn_of _ (by decide +kernel)) ggX0_planLeadsTo_X0_plansRight
set_option maxRecDepth 20000 in
theorem ggX0_planLeadsTo_X0_pathFrom : GoodIn wsX0_planLeadsTo wsX0_pathFrom := goodIn_r _ [35, 36, 37, 38, 39, 4, 40, 41, 42, 43, 44, 45, 46, 47, 48, 49, 50, 51, 52, 53, 54, 55, 56, 57, 58] (by decide +kernel) (by decide +kernel)
set_option maxRecDepth 20000 in
theorem gX0_planLeadsTo_X0_pathFrom : GoodIn wsX0_planLeadsTo (wsV RX0 163 RX0 yX0_pathFrom wsX0_pathFrom) := goodIn_app (goodIn_of _ (by decide +kernel)) ggX0_planLeadsTo_X0_pathFrom
theorem dX0_planLeadsTo_0 : decode cX0_planLeadsTo 0 = .ok (.aload_n 0, 1) := by decide +kernel
theorem dX0_planLeadsTo_1 : decode cX0_planLeadsTo 1 = .ok (.iload_n 1, 1) := by decide +kernel
theorem dX0_planLeadsTo_2 : decode cX0_planLeadsTo 2 = .ok (.invokevirtual 84, 3) := by decide +kernel
theorem dX0_planLeadsTo_5 : decode cX0_planLeadsTo 5 = .ok (.iload_n 1, 1) := by decide +kernel
theorem dX0_planLeadsTo_6 : decode cX0_planLeadsTo 6 = .ok (.istore_n 2, 1) := by decide +kernel
theorem dX0_planLeadsTo_7 : decode cX0_planLeadsTo 7 = .ok (.iconst 0, 1) := by decide +kernel
theorem dX0_planLeadsTo_8 : decode cX0_planLeadsTo 8 = .ok (.istore_n 3, 1) := by decide +kernel
theorem dX0_planLeadsTo_9 : decode cX0_planLeadsTo 9 = .ok (.iload_n 3, 1) := by decide +kernel
theorem dX0_planLeadsTo_10 : decode cX0_planLeadsTo 10 = .ok (.bipush 40, 2) := by decide +kernel
theorem dX0_planLeadsTo_12 : decode cX0_planLeadsTo 12 = .ok (.if_icmp .ge 28, 3) := by decide +kernel
theorem dX0_planLeadsTo_15 : decode cX0_planLeadsTo 15 = .ok (.aload_n 0, 1) := by decide +kernel
theorem dX0_planLeadsTo_16 : decode cX0_planLeadsTo 16 = .ok (.iload_n 2, 1) := by decide +kernel
theorem dX0_planLeadsTo_17 : decode cX0_planLeadsTo 17 = .ok (.invokevirtual 135, 3) := by decide +kernel
theorem dX0_planLeadsTo_20 : decode cX0_planLeadsTo 20 = .ok (.ifCond .ne 20, 3) := by decide +kernel
theorem dX0_planLeadsTo_23 : decode cX0_planLeadsTo 23 = .ok (.aload_n 0, 1) := by decide +kernel
theorem dX0_planLeadsTo_24 : decode cX0_planLeadsTo 24 = .ok (.iload_n 2, 1) := by decide +kernel
theorem dX0_planLeadsTo_25 : decode cX0_planLeadsTo 25 = .ok (.aload_n 0, 1) := by decide +kernel
theorem dX0_planLeadsTo_26 : decode cX0_planLeadsTo 26 = .ok (.iload_n 2, 1) := by decide +kernel
theorem dX0_planLeadsTo_27 : decode cX0_planLeadsTo 27 = .ok (.invokevirtual 150, 3) := by decide +kernel
theorem dX0_planLeadsTo_30 : decode cX0_planLeadsTo 30 = .ok (.invokevirtual 163, 3) := by decide +kernel
theorem dX0_planLeadsTo_33 : decode cX0_planLeadsTo 33 = .ok (.istore_n 2, 1) := by decide +kernel
theorem dX0_planLeadsTo_34 : decode cX0_planLeadsTo 34 = .ok (.iinc 3 1, 3) := by decide +kernel
theorem dX0_planLeadsTo_37 : decode cX0_planLeadsTo 37 = .ok (.goto (-28), 3) := by decide +kernel
theorem dX0_planLeadsTo_40 : decode cX0_planLeadsTo 40 = .ok (.iload_n 2, 1) := by decide +kernel
theorem dX0_planLeadsTo_41 : decode cX0_planLeadsTo 41 = .ok (.ireturn, 1) := by decide +kernel
set_option maxRecDepth 20000 in
theorem ggX0_riskiestFork_X0_holdsExam : GoodIn wsX0_riskiestFork wsX0_holdsExam := goodIn_r _ [6, 7, 8, 9, 5, 10, 38, 39, 40, 41, 42, 43, 44, 45, 46, 47, 48, 49, 50, 51, 52, 53, 54, 55] (by decide +kernel) (by decide +kernel)
set_option maxRecDepth 20000 in
theorem gX0_riskiestFork_X0_holdsExam : GoodIn wsX0_riskiestFork (wsV RX0 135 RX0 yX0_holdsExam wsX0_holdsExam) := goodIn_app (goodIn_of _ (by decide +kernel)) ggX0_riskiestFork_X0_holdsExam
set_option maxRecDepth 20000 in
theorem ggX0_riskiestFork_X0_smallerRisk : GoodIn wsX0_riskiestFork wsX0_smallerRisk := goodIn_r _ [14, 15, 16, 17, 18, 19, 20, 21, 5, 22, 23, 24, 25, 26, 27, 28, 29, 30, 31, 32, 33, 34, 35, 36, 37, 38, 39, 40, 41, 42, 43, 44, 45, 46, 47, 48, 49, 50, 51, 52, 53, 54, 55] (by decide +kernel) (by decide +kernel)
set_option maxRecDepth 20000 in
theorem gX0_riskiestFork_X0_smallerRisk : GoodIn wsX0_riskiestFork (wsV RX0 166 RX0 yX0_smallerRisk wsX0_smallerRisk) := goodIn_app (goodIn_of _ (by decide +kernel)) ggX0_riskiestFork_X0_smallerRisk
theorem dX0_riskiestFork_0 : decode cX0_riskiestFork 0 = .ok (.iconst (-1), 1) := by decide +kernel
theorem dX0_riskiestFork_1 : decode cX0_riskiestFork 1 = .ok (.istore_n 1, 1) := by decide +kernel
theorem dX0_riskiestFork_2 : decode cX0_riskiestFork 2 = .ok (.iconst (-1), 1) := by decide +kernel
theorem dX0_riskiestFork_3 : decode cX0_riskiestFork 3 = .ok (.istore_n 2, 1) := by decide +kernel
theorem dX0_riskiestFork_4 : decode cX0_riskiestFork 4 = .ok (.iconst 0, 1) := by decide +kernel
theorem dX0_riskiestFork_5 : decode cX0_riskiestFork 5 = .ok (.istore_n 3, 1) := by decide +kernel
theorem dX0_riskiestFork_6 : decode cX0_riskiestFork 6 = .ok (.iload_n 3, 1) := by decide +kernel
theorem dX0_riskiestFork_7 : decode cX0_riskiestFork 7 = .ok (.aload_n 0, 1) := by decide +kernel
theorem dX0_riskiestFork_8 : decode cX0_riskiestFork 8 = .ok (.getfield 60, 3) := by decide +kernel
theorem dX0_riskiestFork_11 : decode cX0_riskiestFork 11 = .ok (.if_icmp .ge 34, 3) := by decide +kernel
theorem dX0_riskiestFork_14 : decode cX0_riskiestFork 14 = .ok (.aload_n 0, 1) := by decide +kernel
theorem dX0_riskiestFork_15 : decode cX0_riskiestFork 15 = .ok (.iload_n 3, 1) := by decide +kernel
theorem dX0_riskiestFork_16 : decode cX0_riskiestFork 16 = .ok (.invokevirtual 135, 3) := by decide +kernel
theorem dX0_riskiestFork_19 : decode cX0_riskiestFork 19 = .ok (.ifCond .ne 20, 3) := by decide +kernel
theorem dX0_riskiestFork_22 : decode cX0_riskiestFork 22 = .ok (.aload_n 0, 1) := by decide +kernel
theorem dX0_riskiestFork_23 : decode cX0_riskiestFork 23 = .ok (.iload_n 3, 1) := by decide +kernel
theorem dX0_riskiestFork_24 : decode cX0_riskiestFork 24 = .ok (.invokevirtual 166, 3) := by decide +kernel
theorem dX0_riskiestFork_27 : decode cX0_riskiestFork 27 = .ok (.iload_n 2, 1) := by decide +kernel
theorem dX0_riskiestFork_28 : decode cX0_riskiestFork 28 = .ok (.if_icmp .le 11, 3) := by decide +kernel
theorem dX0_riskiestFork_31 : decode cX0_riskiestFork 31 = .ok (.iload_n 3, 1) := by decide +kernel
theorem dX0_riskiestFork_32 : decode cX0_riskiestFork 32 = .ok (.istore_n 1, 1) := by decide +kernel
theorem dX0_riskiestFork_33 : decode cX0_riskiestFork 33 = .ok (.aload_n 0, 1) := by decide +kernel
theorem dX0_riskiestFork_34 : decode cX0_riskiestFork 34 = .ok (.iload_n 3, 1) := by decide +kernel
theorem dX0_riskiestFork_35 : decode cX0_riskiestFork 35 = .ok (.invokevirtual 166, 3) := by decide +kernel
theorem dX0_riskiestFork_38 : decode cX0_riskiestFork 38 = .ok (.istore_n 2, 1) := by decide +kernel
theorem dX0_riskiestFork_39 : decode cX0_riskiestFork 39 = .ok (.iinc 3 1, 3) := by decide +kernel
theorem dX0_riskiestFork_42 : decode cX0_riskiestFork 42 = .ok (.goto (-36), 3) := by decide +kernel
theorem dX0_riskiestFork_45 : decode cX0_riskiestFork 45 = .ok (.iload_n 1, 1) := by decide +kernel
theorem dX0_riskiestFork_46 : decode cX0_riskiestFork 46 = .ok (.ireturn, 1) := by decide +kernel
set_option maxRecDepth 20000 in
theorem ggX0_hindsight_X0_requireFork : GoodIn wsX0_hindsight wsX0_requireFork := goodIn_ca (goodIn_r _ [6, 7, 8, 9, 10, 11, 5, 12, 13, 14, 15, 16, 17, 18, 19, 20, 21, 25, 26, 27, 28, 29, 30, 31, 32, 33, 34, 35, 36, 37, 38, 39, 40, 41, 42] (by decide +kernel) (by decide +kernel)) (goodIn_sub (fun _ h => List.mem_cons_of_mem _ (List.mem_append_right _ h)) (by decide +kernel))
set_option maxRecDepth 20000 in
theorem gX0_hindsight_X0_requireFork : GoodIn wsX0_hindsight (wsV RX0 124 RX0 yX0_requireFork wsX0_requireFork) := goodIn_app (goodIn_of _ (by decide +kernel)) ggX0_hindsight_X0_requireFork
set_option maxRecDepth 20000 in
theorem ggX0_hindsight_X0_at : GoodIn wsX0_hindsight wsX0_at := goodIn_r _ [24] (by decide +kernel) (by decide +kernel)
set_option maxRecDepth 20000 in
theorem gX0_hindsight_X0_at : GoodIn wsX0_hindsight (va_wsS RX0 100 yX0_at wsX0_at) := goodIn_app (goodIn_of _ (by decide +kernel)) ggX0_hindsight_X0_at
theorem dX0_hindsight_0 : decode cX0_hindsight 0 = .ok (.aload_n 0, 1) := by decide +kernel
theorem dX0_hindsight_1 : decode cX0_hindsight 1 = .ok (.iload_n 1, 1) := by decide +kernel
theorem dX0_hindsight_2 : decode cX0_hindsight 2 = .ok (.invokevirtual 124, 3) := by decide +kernel
theorem dX0_hindsight_5 : decode cX0_hindsight 5 = .ok (.aload_n 0, 1) := by decide +kernel
theorem dX0_hindsight_6 : decode cX0_hindsight 6 = .ok (.getfield 34, 3) := by decide +kernel
theorem dX0_hindsight_9 : decode cX0_hindsight 9 = .ok (.iload_n 1, 1) := by decide +kernel
theorem dX0_hindsight_10 : decode cX0_hindsight 10 = .ok (.invokestatic 100, 3) := by decide +kernel
theorem dX0_hindsight_13 : decode cX0_hindsight 13 = .ok (.ireturn, 1) := by decide +kernel
set_option maxRecDepth 20000 in
theorem ggX0_regretOf_X0_requireStudent : GoodIn wsX0_regretOf wsX0_requireStudent := goodIn_ca (goodIn_r _ [5, 6, 7, 8, 44, 45, 46, 47, 48, 49, 50, 51, 52, 53, 54, 55, 56, 57, 58, 59, 60, 61] (by decide +kernel) (by decide +kernel)) (goodIn_sub (fun _ h => List.mem_cons_of_mem _ (List.mem_append_left _ (List.mem_append_right _ h))) (by decide +kernel))
set_option maxRecDepth 20000 in
theorem gX0_regretOf_X0_requireStudent : GoodIn wsX0_regretOf (wsV RX0 132 RX0 yX0_requireStudent wsX0_requireStudent) := goodIn_app (goodIn_of _ (by decide +kernel)) ggX0_regretOf_X0_requireStudent
set_option maxRecDepth 20000 in
theorem ggX0_regretOf_X0_requireGraded : GoodIn wsX0_regretOf wsX0_requireGraded := goodIn_ca (goodIn_r _ [12, 13, 14, 15, 16, 17, 4, 18, 19, 20, 21, 22, 23, 44, 45, 46, 47, 48, 49, 50, 51, 52, 53, 54, 55, 56, 57, 58, 59, 60, 61] (by decide +kernel) (by decide +kernel)) (goodIn_sub (fun _ h => List.mem_cons_of_mem _ (List.mem_append_right _ h)) (by decide +kernel))
set_option maxRecDepth 20000 in
theorem gX0_regretOf_X0_requireGraded : GoodIn wsX0_regretOf (wsV RX0 170 RX0 yX0_requireGraded wsX0_requireGraded) := goodIn_app (goodIn_of _ (by decide +kernel)) ggX0_regretOf_X0_requireGraded
set_option maxRecDepth 20000 in
theorem ggX0_regretOf_X0_regretOfAll : GoodIn wsX0_regretOf wsX0_regretOfAll := goodIn_r _ [27, 28, 16, 17, 4, 18, 29, 30, 31, 32, 23, 15, 33, 34, 35, 36, 37, 38, 39, 40, 41, 42, 43, 44, 45, 46, 47, 48, 49, 50, 51, 52, 53, 54, 55, 56, 57, 58, 59, 60, 61] (by decide +kernel) (by decide +kernel)
set_option maxRecDepth 20000 in
theorem gX0_regretOf_X0_regretOfAll : GoodIn wsX0_regretOf (wsV RX0 173 RX0 yX0_regretOfAll wsX0_regretOfAll) := goodIn_app (goodIn_of _ (by decide +kernel)) ggX0_regretOf_X0_regretOfAll
theorem dX0_regretOf_0 : decode cX0_regretOf 0 = .ok (.aload_n 0, 1) := by decide +kernel
theorem dX0_regretOf_1 : decode cX0_regretOf 1 = .ok (.iload_n 1, 1) := by decide +kernel
theorem dX0_regretOf_2 : decode cX0_regretOf 2 = .ok (.invokevirtual 132, 3) := by decide +kernel
theorem dX0_regretOf_5 : decode cX0_regretOf 5 = .ok (.aload_n 0, 1) := by decide +kernel
theorem dX0_regretOf_6 : decode cX0_regretOf 6 = .ok (.iload_n 1, 1) := by decide +kernel
theorem dX0_regretOf_7 : decode cX0_regretOf 7 = .ok (.invokevirtual 170, 3) := by decide +kernel
theorem dX0_regretOf_10 : decode cX0_regretOf 10 = .ok (.aload_n 0, 1) := by decide +kernel
theorem dX0_regretOf_11 : decode cX0_regretOf 11 = .ok (.iload_n 1, 1) := by decide +kernel
theorem dX0_regretOf_12 : decode cX0_regretOf 12 = .ok (.invokevirtual 173, 3) := by decide +kernel
theorem dX0_regretOf_15 : decode cX0_regretOf 15 = .ok (.ireturn, 1) := by decide +kernel
set_option maxRecDepth 20000 in
theorem ggX0_worstFork_X0_requireStudent : GoodIn wsX0_worstFork wsX0_requireStudent := goodIn_ca (goodIn_r _ [6, 7, 8, 9, 40, 41, 42, 43, 44, 45, 46, 47, 48, 49, 50, 51, 52, 53, 54, 55, 56, 57] (by decide +kernel) (by decide +kernel)) (goodIn_sub (fun _ h => List.mem_cons_of_mem _ (List.mem_append_left _ (List.mem_append_right _ h))) (by decide +kernel))
set_option maxRecDepth 20000 in
theorem gX0_worstFork_X0_requireStudent : GoodIn wsX0_worstFork (wsV RX0 132 RX0 yX0_requireStudent wsX0_requireStudent) := goodIn_app (goodIn_of _ (by decide +kernel)) ggX0_worstFork_X0_requireStudent
set_option maxRecDepth 20000 in
theorem ggX0_worstFork_X0_requireGraded : GoodIn wsX0_worstFork wsX0_requireGraded := goodIn_ca (goodIn_r _ [13, 14, 15, 16, 17, 18, 5, 19, 20, 21, 22, 23, 24, 40, 41, 42, 43, 44, 45, 46, 47, 48, 49, 50, 51, 52, 53, 54, 55, 56, 57] (by decide +kernel) (by decide +kernel)) (goodIn_sub (fun _ h => List.mem_cons_of_mem _ (List.mem_append_right _ h)) (by decide +kernel))
set_option maxRecDepth 20000 in
theorem gX0_worstFork_X0_requireGraded : GoodIn wsX0_worstFork (wsV RX0 170 RX0 yX0_requireGraded wsX0_requireGraded) := goodIn_app (goodIn_of _ (by decide +kernel)) ggX0_worstFork_X0_requireGraded
set_option maxRecDepth 20000 in
theorem ggX0_worstFork_X0_at : GoodIn wsX0_worstFork wsX0_at := goodIn_r _ [19] (by decide +kernel) (by decide +kernel)
set_option maxRecDepth 20000 in
theorem gX0_worstFork_X0_at : GoodIn wsX0_worstFork (va_wsS RX0 100 yX0_at wsX0_at) := goodIn_app (goodIn_of _ (by decide +kernel)) ggX0_worstFork_X0_at
set_option maxRecDepth 20000 in
theorem ggX0_worstFork_X0_regretOfStep : GoodIn wsX0_worstFork wsX0_regretOfStep := goodIn_r _ [28, 24, 16, 29, 30, 31, 32, 33, 34, 35, 36, 37, 5, 38, 39, 17, 18, 19, 40, 41, 42, 43, 44, 45, 46, 47, 48, 49, 50, 51, 52, 53, 54, 55, 56, 57] (by decide +kernel) (by decide +kernel)
set_option maxRecDepth 20000 in
theorem gX0_worstFork_X0_regretOfStep : GoodIn wsX0_worstFork (wsV RX0 176 RX0 yX0_regretOfStep wsX0_regretOfStep) := goodIn_app (goodIn_of _ (by decide +kernel)) ggX0_worstFork_X0_regretOfStep
set_option maxRecDepth 20000 in
theorem ggX0_worstFork_X0_passedFork : GoodIn wsX0_worstFork wsX0_passedFork := goodIn_r _ [38, 39, 17, 18, 5, 19, 40, 41, 42, 43, 44, 45, 46, 47, 48, 49, 50, 51, 52, 53, 54, 55, 56, 57] (by decide +kernel) (by decide +kernel)
set_option maxRecDepth 20000 in
theorem gX0_worstFork_X0_passedFork : GoodIn wsX0_worstFork (wsV RX0 146 RX0 yX0_passedFork wsX0_passedFork) := goodIn_app (goodIn_of _ (by decide +kernel)) ggX0_worstFork_X0_passedFork
theorem dX0_worstFork_0 : decode cX0_worstFork 0 = .ok (.aload_n 0, 1) := by decide +kernel
theorem dX0_worstFork_1 : decode cX0_worstFork 1 = .ok (.iload_n 1, 1) := by decide +kernel
theorem dX0_worstFork_2 : decode cX0_worstFork 2 = .ok (.invokevirtual 132, 3) := by decide +kernel
theorem dX0_worstFork_5 : decode cX0_worstFork 5 = .ok (.aload_n 0, 1) := by decide +kernel
theorem dX0_worstFork_6 : decode cX0_worstFork 6 = .ok (.iload_n 1, 1) := by decide +kernel
theorem dX0_worstFork_7 : decode cX0_worstFork 7 = .ok (.invokevirtual 170, 3) := by decide +kernel
theorem dX0_worstFork_10 : decode cX0_worstFork 10 = .ok (.iconst (-1), 1) := by decide +kernel
theorem dX0_worstFork_11 : decode cX0_worstFork 11 = .ok (.istore_n 2, 1) := by decide +kernel
theorem dX0_worstFork_12 : decode cX0_worstFork 12 = .ok (.iconst 0, 1) := by decide +kernel
theorem dX0_worstFork_13 : decode cX0_worstFork 13 = .ok (.istore_n 3, 1) := by decide +kernel
theorem dX0_worstFork_14 : decode cX0_worstFork 14 = .ok (.aload_n 0, 1) := by decide +kernel
theorem dX0_worstFork_15 : decode cX0_worstFork 15 = .ok (.getfield 44, 3) := by decide +kernel
theorem dX0_worstFork_18 : decode cX0_worstFork 18 = .ok (.iload_n 1, 1) := by decide +kernel
theorem dX0_worstFork_19 : decode cX0_worstFork 19 = .ok (.invokestatic 100, 3) := by decide +kernel
theorem dX0_worstFork_22 : decode cX0_worstFork 22 = .ok (.istore 4, 2) := by decide +kernel
theorem dX0_worstFork_24 : decode cX0_worstFork 24 = .ok (.iconst 0, 1) := by decide +kernel
theorem dX0_worstFork_25 : decode cX0_worstFork 25 = .ok (.istore 5, 2) := by decide +kernel
theorem dX0_worstFork_27 : decode cX0_worstFork 27 = .ok (.iload 5, 2) := by decide +kernel
theorem dX0_worstFork_29 : decode cX0_worstFork 29 = .ok (.iload 4, 2) := by decide +kernel
theorem dX0_worstFork_31 : decode cX0_worstFork 31 = .ok (.if_icmp .ge 35, 3) := by decide +kernel
theorem dX0_worstFork_34 : decode cX0_worstFork 34 = .ok (.aload_n 0, 1) := by decide +kernel
theorem dX0_worstFork_35 : decode cX0_worstFork 35 = .ok (.iload_n 1, 1) := by decide +kernel
theorem dX0_worstFork_36 : decode cX0_worstFork 36 = .ok (.iload 5, 2) := by decide +kernel
theorem dX0_worstFork_38 : decode cX0_worstFork 38 = .ok (.invokevirtual 176, 3) := by decide +kernel
theorem dX0_worstFork_41 : decode cX0_worstFork 41 = .ok (.istore 6, 2) := by decide +kernel
theorem dX0_worstFork_43 : decode cX0_worstFork 43 = .ok (.iload 6, 2) := by decide +kernel
theorem dX0_worstFork_45 : decode cX0_worstFork 45 = .ok (.iload_n 3, 1) := by decide +kernel
theorem dX0_worstFork_46 : decode cX0_worstFork 46 = .ok (.if_icmp .le 14, 3) := by decide +kernel
theorem dX0_worstFork_49 : decode cX0_worstFork 49 = .ok (.aload_n 0, 1) := by decide +kernel
theorem dX0_worstFork_50 : decode cX0_worstFork 50 = .ok (.iload_n 1, 1) := by decide +kernel
theorem dX0_worstFork_51 : decode cX0_worstFork 51 = .ok (.iload 5, 2) := by decide +kernel
theorem dX0_worstFork_53 : decode cX0_worstFork 53 = .ok (.invokevirtual 146, 3) := by decide +kernel
theorem dX0_worstFork_56 : decode cX0_worstFork 56 = .ok (.istore_n 2, 1) := by decide +kernel
theorem dX0_worstFork_57 : decode cX0_worstFork 57 = .ok (.iload 6, 2) := by decide +kernel
theorem dX0_worstFork_59 : decode cX0_worstFork 59 = .ok (.istore_n 3, 1) := by decide +kernel
theorem dX0_worstFork_60 : decode cX0_worstFork 60 = .ok (.iinc 5 1, 3) := by decide +kernel
theorem dX0_worstFork_63 : decode cX0_worstFork 63 = .ok (.goto (-36), 3) := by decide +kernel
theorem dX0_worstFork_66 : decode cX0_worstFork 66 = .ok (.iload_n 2, 1) := by decide +kernel
theorem dX0_worstFork_67 : decode cX0_worstFork 67 = .ok (.ireturn, 1) := by decide +kernel
set_option maxRecDepth 20000 in
theorem ggX0_allRegret_X0_at : GoodIn wsX0_allRegret wsX0_at := goodIn_r _ [6] (by decide +kernel) (by decide +kernel)
set_option maxRecDepth 20000 in
theorem gX0_allRegret_X0_at : GoodIn wsX0_allRegret (va_wsS RX0 100 yX0_at wsX0_at) := goodIn_app (goodIn_of _ (by decide +kernel)) ggX0_allRegret_X0_at
set_option maxRecDepth 20000 in
theorem ggX0_allRegret_X0_hasGrade : GoodIn wsX0_allRegret wsX0_hasGrade := goodIn_r _ [10, 11, 3, 4, 5, 6, 32, 33, 34, 35, 36, 37, 38, 39, 40, 41, 42, 43, 44, 45, 46, 47, 48, 49] (by decide +kernel) (by decide +kernel)
set_option maxRecDepth 20000 in
theorem gX0_allRegret_X0_hasGrade : GoodIn wsX0_allRegret (wsV RX0 106 RX0 yX0_hasGrade wsX0_hasGrade) := goodIn_app (goodIn_of _ (by decide +kernel)) ggX0_allRegret_X0_hasGrade
set_option maxRecDepth 20000 in
theorem ggX0_allRegret_X0_regretOfAll : GoodIn wsX0_allRegret wsX0_regretOfAll := goodIn_r _ [15, 16, 3, 4, 5, 6, 17, 18, 19, 20, 11, 2, 21, 22, 23, 24, 25, 26, 27, 28, 29, 30, 31, 32, 33, 34, 35, 36, 37, 38, 39, 40, 41, 42, 43, 44, 45, 46, 47, 48, 49] (by decide +kernel) (by decide +kernel)
set_option maxRecDepth 20000 in
theorem gX0_allRegret_X0_regretOfAll : GoodIn wsX0_allRegret (wsV RX0 173 RX0 yX0_regretOfAll wsX0_regretOfAll) := goodIn_app (goodIn_of _ (by decide +kernel)) ggX0_allRegret_X0_regretOfAll
theorem dX0_allRegret_0 : decode cX0_allRegret 0 = .ok (.iconst 0, 1) := by decide +kernel
theorem dX0_allRegret_1 : decode cX0_allRegret 1 = .ok (.istore_n 1, 1) := by decide +kernel
theorem dX0_allRegret_2 : decode cX0_allRegret 2 = .ok (.iconst 0, 1) := by decide +kernel
theorem dX0_allRegret_3 : decode cX0_allRegret 3 = .ok (.istore_n 2, 1) := by decide +kernel
theorem dX0_allRegret_4 : decode cX0_allRegret 4 = .ok (.iload_n 2, 1) := by decide +kernel
theorem dX0_allRegret_5 : decode cX0_allRegret 5 = .ok (.aload_n 0, 1) := by decide +kernel
theorem dX0_allRegret_6 : decode cX0_allRegret 6 = .ok (.getfield 127, 3) := by decide +kernel
theorem dX0_allRegret_9 : decode cX0_allRegret 9 = .ok (.if_icmp .ge 32, 3) := by decide +kernel
theorem dX0_allRegret_12 : decode cX0_allRegret 12 = .ok (.aload_n 0, 1) := by decide +kernel
theorem dX0_allRegret_13 : decode cX0_allRegret 13 = .ok (.aload_n 0, 1) := by decide +kernel
theorem dX0_allRegret_14 : decode cX0_allRegret 14 = .ok (.getfield 41, 3) := by decide +kernel
theorem dX0_allRegret_17 : decode cX0_allRegret 17 = .ok (.iload_n 2, 1) := by decide +kernel
theorem dX0_allRegret_18 : decode cX0_allRegret 18 = .ok (.invokestatic 100, 3) := by decide +kernel
theorem dX0_allRegret_21 : decode cX0_allRegret 21 = .ok (.invokevirtual 106, 3) := by decide +kernel
theorem dX0_allRegret_24 : decode cX0_allRegret 24 = .ok (.ifCond .eq 11, 3) := by decide +kernel
theorem dX0_allRegret_27 : decode cX0_allRegret 27 = .ok (.iload_n 1, 1) := by decide +kernel
theorem dX0_allRegret_28 : decode cX0_allRegret 28 = .ok (.aload_n 0, 1) := by decide +kernel
theorem dX0_allRegret_29 : decode cX0_allRegret 29 = .ok (.iload_n 2, 1) := by decide +kernel
theorem dX0_allRegret_30 : decode cX0_allRegret 30 = .ok (.invokevirtual 173, 3) := by decide +kernel
theorem dX0_allRegret_33 : decode cX0_allRegret 33 = .ok (.iadd, 1) := by decide +kernel
theorem dX0_allRegret_34 : decode cX0_allRegret 34 = .ok (.istore_n 1, 1) := by decide +kernel
theorem dX0_allRegret_35 : decode cX0_allRegret 35 = .ok (.iinc 2 1, 3) := by decide +kernel
theorem dX0_allRegret_38 : decode cX0_allRegret 38 = .ok (.goto (-34), 3) := by decide +kernel
theorem dX0_allRegret_41 : decode cX0_allRegret 41 = .ok (.iload_n 1, 1) := by decide +kernel
theorem dX0_allRegret_42 : decode cX0_allRegret 42 = .ok (.ireturn, 1) := by decide +kernel
theorem dX0_meanGrade_0 : decode cX0_meanGrade 0 = .ok (.aload_n 0, 1) := by decide +kernel
theorem dX0_meanGrade_1 : decode cX0_meanGrade 1 = .ok (.getfield 115, 3) := by decide +kernel
theorem dX0_meanGrade_4 : decode cX0_meanGrade 4 = .ok (.ifCond .ne 5, 3) := by decide +kernel
theorem dX0_meanGrade_7 : decode cX0_meanGrade 7 = .ok (.dconst 0, 1) := by decide +kernel
theorem dX0_meanGrade_8 : decode cX0_meanGrade 8 = .ok (.dreturn, 1) := by decide +kernel
theorem dX0_meanGrade_9 : decode cX0_meanGrade 9 = .ok (.aload_n 0, 1) := by decide +kernel
theorem dX0_meanGrade_10 : decode cX0_meanGrade 10 = .ok (.getfield 118, 3) := by decide +kernel
theorem dX0_meanGrade_13 : decode cX0_meanGrade 13 = .ok (.i2d, 1) := by decide +kernel
theorem dX0_meanGrade_14 : decode cX0_meanGrade 14 = .ok (.aload_n 0, 1) := by decide +kernel
theorem dX0_meanGrade_15 : decode cX0_meanGrade 15 = .ok (.getfield 115, 3) := by decide +kernel
theorem dX0_meanGrade_18 : decode cX0_meanGrade 18 = .ok (.i2d, 1) := by decide +kernel
theorem dX0_meanGrade_19 : decode cX0_meanGrade 19 = .ok (.ddiv, 1) := by decide +kernel
theorem dX0_meanGrade_20 : decode cX0_meanGrade 20 = .ok (.dreturn, 1) := by decide +kernel
set_option maxRecDepth 20000 in
theorem ggX0_digest_X0_places : GoodIn wsX0_digest wsX0_places := goodIn_r _ [8, 2, 179, 180, 181, 182, 183, 184, 185, 186, 187, 188, 189, 190, 191, 192, 193, 194, 195, 196] (by decide +kernel) (by decide +kernel)
set_option maxRecDepth 20000 in
theorem gX0_digest_X0_places : GoodIn wsX0_digest (wsV RX0 181 RX0 yX0_places wsX0_places) := goodIn_app (goodIn_of _ (by decide +kernel)) ggX0_digest_X0_places
set_option maxRecDepth 20000 in
theorem ggX0_digest_X0_mix : GoodIn wsX0_digest wsX0_mix := goodIn_r _ [11, 12] (by decide +kernel) (by decide +kernel)
set_option maxRecDepth 20000 in
theorem gX0_digest_X0_mix : GoodIn wsX0_digest (va_wsS RX0 185 yX0_mix wsX0_mix) := goodIn_app (goodIn_of _ (by decide +kernel)) ggX0_digest_X0_mix
set_option maxRecDepth 20000 in
theorem ggX0_digest_X0_exams : GoodIn wsX0_digest wsX0_exams := goodIn_r _ [16, 17, 18, 19, 20, 21, 22, 23, 24, 179, 180, 181, 182, 183, 184, 185, 186, 187, 188, 189, 190, 191, 192, 193, 194, 195, 196] (by decide +kernel) (by decide +kernel)
set_option maxRecDepth 20000 in
theorem gX0_digest_X0_exams : GoodIn wsX0_digest (wsV RX0 189 RX0 yX0_exams wsX0_exams) := goodIn_app (goodIn_of _ (by decide +kernel)) ggX0_digest_X0_exams
set_option maxRecDepth 20000 in
theorem ggX0_digest_X0_graded : GoodIn wsX0_digest wsX0_graded := goodIn_r _ [28, 29, 179, 180, 181, 182, 183, 184, 185, 186, 187, 188, 189, 190, 191, 192, 193, 194, 195, 196] (by decide +kernel) (by decide +kernel)
set_option maxRecDepth 20000 in
theorem gX0_digest_X0_graded : GoodIn wsX0_digest (wsV RX0 192 RX0 yX0_graded wsX0_graded) := goodIn_app (goodIn_of _ (by decide +kernel)) ggX0_digest_X0_graded
set_option maxRecDepth 20000 in
theorem ggX0_digest_X0_students : GoodIn wsX0_digest wsX0_students := goodIn_r _ [33, 3, 179, 180, 181, 182, 183, 184, 185, 186, 187, 188, 189, 190, 191, 192, 193, 194, 195, 196] (by decide +kernel) (by decide +kernel)
set_option maxRecDepth 20000 in
theorem gX0_digest_X0_students : GoodIn wsX0_digest (wsV RX0 195 RX0 yX0_students wsX0_students) := goodIn_app (goodIn_of _ (by decide +kernel)) ggX0_digest_X0_students
set_option maxRecDepth 20000 in
theorem ggX0_digest_X0_atExams : GoodIn wsX0_digest wsX0_atExams := goodIn_r _ [37, 3, 38, 39, 40, 7, 41, 42, 43, 44, 45, 17, 46, 47, 48, 179, 180, 181, 182, 183, 184, 185, 186, 187, 188, 189, 190, 191, 192, 193, 194, 195, 196] (by decide +kernel) (by decide +kernel)
set_option maxRecDepth 20000 in
theorem gX0_digest_X0_atExams : GoodIn wsX0_digest (wsV RX0 198 RX0 yX0_atExams wsX0_atExams) := goodIn_app (goodIn_of _ (by decide +kernel)) ggX0_digest_X0_atExams
set_option maxRecDepth 20000 in
theorem ggX0_digest_X0_riskiestFork : GoodIn wsX0_digest wsX0_riskiestFork := goodIn_r _ [52, 2, 42, 43, 44, 7, 45, 17, 46, 47, 48, 53, 54, 55, 56, 57, 58, 59, 60, 61, 62, 63, 64, 65, 66, 67, 68, 69, 70, 71, 72, 73, 74, 75, 76, 39, 40, 41, 179, 180, 181, 182, 183, 184, 185, 186, 187, 188, 189, 190, 191, 192, 193, 194, 195, 196] (by decide +kernel) (by decide +kernel)
set_option maxRecDepth 20000 in
theorem gX0_digest_X0_riskiestFork : GoodIn wsX0_digest (wsV RX0 201 RX0 yX0_riskiestFork wsX0_riskiestFork) := goodIn_app (goodIn_of _ (by decide +kernel)) ggX0_digest_X0_riskiestFork
set_option maxRecDepth 20000 in
theorem ggX0_digest_X0_allRegret : GoodIn wsX0_digest wsX0_allRegret := goodIn_r _ [80, 3, 38, 39, 40, 7, 41, 81, 82, 83, 84, 85, 86, 87, 88, 89, 90, 91, 92, 93, 94, 95, 67, 68, 59, 69, 70, 96, 97, 98, 99, 100, 179, 180, 181, 182, 183, 184, 185, 186, 187, 188, 189, 190, 191, 192, 193, 194, 195, 196] (by decide +kernel) (by decide +kernel)
set_option maxRecDepth 20000 in
theorem gX0_digest_X0_allRegret : GoodIn wsX0_digest (wsV RX0 204 RX0 yX0_allRegret wsX0_allRegret) := goodIn_app (goodIn_of _ (by decide +kernel)) ggX0_digest_X0_allRegret
set_option maxRecDepth 20000 in
theorem ggX0_digest_X0_mixPlace : GoodIn wsX0_digest wsX0_mixPlace := goodIn_ca (goodIn_r _ [104, 105, 106, 107, 7, 108, 109, 110, 111, 112, 113, 114, 2, 42, 43, 44, 45, 17, 46, 47, 48, 9, 10, 11, 12, 115, 116, 117, 118, 65, 39, 40, 41, 119, 120, 121, 122, 66, 123, 124, 125, 126, 127, 128, 129, 130, 18, 19, 20, 21, 22, 23, 24, 131, 132, 133, 134, 135, 136, 137, 138, 61, 62, 63, 64, 67, 68, 59, 69, 70, 71, 72, 73, 74, 75, 76, 139, 140, 141, 142, 85, 143, 144, 145, 146, 147, 148, 149, 150, 151, 152, 153, 154, 155, 156, 157, 158, 159, 160, 161, 162, 163, 164, 165, 166, 95, 179, 180, 181, 182, 183, 184, 185, 186, 187, 188, 189, 190, 191, 192, 193, 194, 195, 196] (by decide +kernel) (by decide +kernel)) (goodIn_sub (fun _ h => List.mem_cons_of_mem _ (List.mem_append_right _ h)) (by decide +kernel))
set_option maxRecDepth 20000 in
theorem gX0_digest_X0_mixPlace : GoodIn wsX0_digest (wsV RX0 207 RX0 yX0_mixPlace wsX0_mixPlace) := goodIn_app (goodIn_of _ (by decide +kernel)) ggX0_digest_X0_mixPlace
set_option maxRecDepth 20000 in
theorem ggX0_digest_X0_placeOf : GoodIn wsX0_digest wsX0_placeOf := goodIn_ca (goodIn_r _ [170, 38, 171, 172, 173, 7, 174, 113, 114, 3, 39, 40, 41, 179, 180, 181, 182, 183, 184, 185, 186, 187, 188, 189, 190, 191, 192, 193, 194, 195, 196] (by decide +kernel) (by decide +kernel)) (goodIn_sub (fun _ h => List.mem_cons_of_mem _ (List.mem_append_right _ h)) (by decide +kernel))
set_option maxRecDepth 20000 in
theorem gX0_digest_X0_placeOf : GoodIn wsX0_digest (wsV RX0 210 RX0 yX0_placeOf wsX0_placeOf) := goodIn_app (goodIn_of _ (by decide +kernel)) ggX0_digest_X0_placeOf
set_option maxRecDepth 20000 in
theorem ggX0_digest_X0_passedBy : GoodIn wsX0_digest wsX0_passedBy := goodIn_ca (goodIn_r _ [178, 90, 171, 172, 173, 7, 174, 113, 114, 3, 39, 40, 41, 179, 180, 181, 182, 183, 184, 185, 186, 187, 188, 189, 190, 191, 192, 193, 194, 195, 196] (by decide +kernel) (by decide +kernel)) (goodIn_sub (fun _ h => List.mem_cons_of_mem _ (List.mem_append_right _ h)) (by decide +kernel))
set_option maxRecDepth 20000 in
theorem gX0_digest_X0_passedBy : GoodIn wsX0_digest (wsV RX0 213 RX0 yX0_passedBy wsX0_passedBy) := goodIn_app (goodIn_of _ (by decide +kernel)) ggX0_digest_X0_passedBy
theorem dX0_digest_0 : decode cX0_digest 0 = .ok (.ldc2_w 179, 3) := by decide +kernel
theorem dX0_digest_3 : decode cX0_digest 3 = .ok (.lstore_n 1, 1) := by decide +kernel
theorem dX0_digest_4 : decode cX0_digest 4 = .ok (.lload_n 1, 1) := by decide +kernel
theorem dX0_digest_5 : decode cX0_digest 5 = .ok (.aload_n 0, 1) := by decide +kernel
theorem dX0_digest_6 : decode cX0_digest 6 = .ok (.invokevirtual 181, 3) := by decide +kernel
theorem dX0_digest_9 : decode cX0_digest 9 = .ok (.invokestatic 185, 3) := by decide +kernel
theorem dX0_digest_12 : decode cX0_digest 12 = .ok (.lstore_n 1, 1) := by decide +kernel
theorem dX0_digest_13 : decode cX0_digest 13 = .ok (.lload_n 1, 1) := by decide +kernel
theorem dX0_digest_14 : decode cX0_digest 14 = .ok (.aload_n 0, 1) := by decide +kernel
theorem dX0_digest_15 : decode cX0_digest 15 = .ok (.invokevirtual 189, 3) := by decide +kernel
theorem dX0_digest_18 : decode cX0_digest 18 = .ok (.invokestatic 185, 3) := by decide +kernel
theorem dX0_digest_21 : decode cX0_digest 21 = .ok (.lstore_n 1, 1) := by decide +kernel
theorem dX0_digest_22 : decode cX0_digest 22 = .ok (.lload_n 1, 1) := by decide +kernel
theorem dX0_digest_23 : decode cX0_digest 23 = .ok (.aload_n 0, 1) := by decide +kernel
theorem dX0_digest_24 : decode cX0_digest 24 = .ok (.invokevirtual 192, 3) := by decide +kernel
theorem dX0_digest_27 : decode cX0_digest 27 = .ok (.invokestatic 185, 3) := by decide +kernel
theorem dX0_digest_30 : decode cX0_digest 30 = .ok (.lstore_n 1, 1) := by decide +kernel
theorem dX0_digest_31 : decode cX0_digest 31 = .ok (.lload_n 1, 1) := by decide +kernel
theorem dX0_digest_32 : decode cX0_digest 32 = .ok (.aload_n 0, 1) := by decide +kernel
theorem dX0_digest_33 : decode cX0_digest 33 = .ok (.invokevirtual 195, 3) := by decide +kernel
theorem dX0_digest_36 : decode cX0_digest 36 = .ok (.invokestatic 185, 3) := by decide +kernel
theorem dX0_digest_39 : decode cX0_digest 39 = .ok (.lstore_n 1, 1) := by decide +kernel
theorem dX0_digest_40 : decode cX0_digest 40 = .ok (.lload_n 1, 1) := by decide +kernel
theorem dX0_digest_41 : decode cX0_digest 41 = .ok (.aload_n 0, 1) := by decide +kernel
theorem dX0_digest_42 : decode cX0_digest 42 = .ok (.invokevirtual 198, 3) := by decide +kernel
theorem dX0_digest_45 : decode cX0_digest 45 = .ok (.invokestatic 185, 3) := by decide +kernel
theorem dX0_digest_48 : decode cX0_digest 48 = .ok (.lstore_n 1, 1) := by decide +kernel
theorem dX0_digest_49 : decode cX0_digest 49 = .ok (.lload_n 1, 1) := by decide +kernel
theorem dX0_digest_50 : decode cX0_digest 50 = .ok (.aload_n 0, 1) := by decide +kernel
theorem dX0_digest_51 : decode cX0_digest 51 = .ok (.invokevirtual 201, 3) := by decide +kernel
theorem dX0_digest_54 : decode cX0_digest 54 = .ok (.invokestatic 185, 3) := by decide +kernel
theorem dX0_digest_57 : decode cX0_digest 57 = .ok (.lstore_n 1, 1) := by decide +kernel
theorem dX0_digest_58 : decode cX0_digest 58 = .ok (.lload_n 1, 1) := by decide +kernel
theorem dX0_digest_59 : decode cX0_digest 59 = .ok (.aload_n 0, 1) := by decide +kernel
theorem dX0_digest_60 : decode cX0_digest 60 = .ok (.invokevirtual 204, 3) := by decide +kernel
theorem dX0_digest_63 : decode cX0_digest 63 = .ok (.invokestatic 185, 3) := by decide +kernel
theorem dX0_digest_66 : decode cX0_digest 66 = .ok (.lstore_n 1, 1) := by decide +kernel
theorem dX0_digest_67 : decode cX0_digest 67 = .ok (.iconst 0, 1) := by decide +kernel
theorem dX0_digest_68 : decode cX0_digest 68 = .ok (.istore_n 3, 1) := by decide +kernel
theorem dX0_digest_69 : decode cX0_digest 69 = .ok (.iload_n 3, 1) := by decide +kernel
theorem dX0_digest_70 : decode cX0_digest 70 = .ok (.aload_n 0, 1) := by decide +kernel
theorem dX0_digest_71 : decode cX0_digest 71 = .ok (.getfield 60, 3) := by decide +kernel
theorem dX0_digest_74 : decode cX0_digest 74 = .ok (.if_icmp .ge 16, 3) := by decide +kernel
theorem dX0_digest_77 : decode cX0_digest 77 = .ok (.aload_n 0, 1) := by decide +kernel
theorem dX0_digest_78 : decode cX0_digest 78 = .ok (.lload_n 1, 1) := by decide +kernel
theorem dX0_digest_79 : decode cX0_digest 79 = .ok (.iload_n 3, 1) := by decide +kernel
theorem dX0_digest_80 : decode cX0_digest 80 = .ok (.invokevirtual 207, 3) := by decide +kernel
theorem dX0_digest_83 : decode cX0_digest 83 = .ok (.lstore_n 1, 1) := by decide +kernel
theorem dX0_digest_84 : decode cX0_digest 84 = .ok (.iinc 3 1, 3) := by decide +kernel
theorem dX0_digest_87 : decode cX0_digest 87 = .ok (.goto (-18), 3) := by decide +kernel
theorem dX0_digest_90 : decode cX0_digest 90 = .ok (.iconst 0, 1) := by decide +kernel
theorem dX0_digest_91 : decode cX0_digest 91 = .ok (.istore_n 3, 1) := by decide +kernel
theorem dX0_digest_92 : decode cX0_digest 92 = .ok (.iload_n 3, 1) := by decide +kernel
theorem dX0_digest_93 : decode cX0_digest 93 = .ok (.aload_n 0, 1) := by decide +kernel
theorem dX0_digest_94 : decode cX0_digest 94 = .ok (.getfield 127, 3) := by decide +kernel
theorem dX0_digest_97 : decode cX0_digest 97 = .ok (.if_icmp .ge 29, 3) := by decide +kernel
theorem dX0_digest_100 : decode cX0_digest 100 = .ok (.lload_n 1, 1) := by decide +kernel
theorem dX0_digest_101 : decode cX0_digest 101 = .ok (.aload_n 0, 1) := by decide +kernel
theorem dX0_digest_102 : decode cX0_digest 102 = .ok (.iload_n 3, 1) := by decide +kernel
theorem dX0_digest_103 : decode cX0_digest 103 = .ok (.invokevirtual 210, 3) := by decide +kernel
theorem dX0_digest_106 : decode cX0_digest 106 = .ok (.invokestatic 185, 3) := by decide +kernel
theorem dX0_digest_109 : decode cX0_digest 109 = .ok (.lstore_n 1, 1) := by decide +kernel
theorem dX0_digest_110 : decode cX0_digest 110 = .ok (.lload_n 1, 1) := by decide +kernel
theorem dX0_digest_111 : decode cX0_digest 111 = .ok (.aload_n 0, 1) := by decide +kernel
theorem dX0_digest_112 : decode cX0_digest 112 = .ok (.iload_n 3, 1) := by decide +kernel
theorem dX0_digest_113 : decode cX0_digest 113 = .ok (.invokevirtual 213, 3) := by decide +kernel
theorem dX0_digest_116 : decode cX0_digest 116 = .ok (.invokestatic 185, 3) := by decide +kernel
theorem dX0_digest_119 : decode cX0_digest 119 = .ok (.lstore_n 1, 1) := by decide +kernel
theorem dX0_digest_120 : decode cX0_digest 120 = .ok (.iinc 3 1, 3) := by decide +kernel
theorem dX0_digest_123 : decode cX0_digest 123 = .ok (.goto (-31), 3) := by decide +kernel
theorem dX0_digest_126 : decode cX0_digest 126 = .ok (.lload_n 1, 1) := by decide +kernel
theorem dX0_digest_127 : decode cX0_digest 127 = .ok (.lreturn, 1) := by decide +kernel
set_option maxRecDepth 20000 in
theorem ggX0_mixPlace_X0_isExam : GoodIn wsX0_mixPlace wsX0_isExam := goodIn_ca (goodIn_r _ [5, 6, 7, 8, 4, 9, 10, 11, 12, 13, 14, 15, 16, 17, 18, 19, 20, 106, 107, 108, 109, 110, 111, 112, 113, 114, 115, 116, 117, 118, 119, 120, 121, 122, 123] (by decide +kernel) (by decide +kernel)) (goodIn_sub (fun _ h => List.mem_cons_of_mem _ (List.mem_append_right _ h)) (by decide +kernel))
set_option maxRecDepth 20000 in
theorem gX0_mixPlace_X0_isExam : GoodIn wsX0_mixPlace (wsV RX0 216 RX0 yX0_isExam wsX0_isExam) := goodIn_app (goodIn_of _ (by decide +kernel)) ggX0_mixPlace_X0_isExam
set_option maxRecDepth 20000 in
theorem ggX0_mixPlace_X0_mix : GoodIn wsX0_mixPlace wsX0_mix := goodIn_r _ [23, 24] (by decide +kernel) (by decide +kernel)
set_option maxRecDepth 20000 in
theorem gX0_mixPlace_X0_mix : GoodIn wsX0_mixPlace (va_wsS RX0 185 yX0_mix wsX0_mix) := goodIn_app (goodIn_of _ (by decide +kernel)) ggX0_mixPlace_X0_mix
set_option maxRecDepth 20000 in
theorem ggX0_mixPlace_X0_sureGrade : GoodIn wsX0_mixPlace wsX0_sureGrade := goodIn_ca (goodIn_r _ [28, 29, 6, 7, 8, 4, 9, 10, 11, 12, 30, 31, 32, 106, 107, 108, 109, 110, 111, 112, 113, 114, 115, 116, 117, 118, 119, 120, 121, 122, 123] (by decide +kernel) (by decide +kernel)) (goodIn_sub (fun _ h => List.mem_cons_of_mem _ (List.mem_append_right _ h)) (by decide +kernel))
set_option maxRecDepth 20000 in
theorem gX0_mixPlace_X0_sureGrade : GoodIn wsX0_mixPlace (wsV RX0 219 RX0 yX0_sureGrade wsX0_sureGrade) := goodIn_app (goodIn_of _ (by decide +kernel)) ggX0_mixPlace_X0_sureGrade
set_option maxRecDepth 20000 in
theorem ggX0_mixPlace_X0_hope : GoodIn wsX0_mixPlace wsX0_hope := goodIn_ca (goodIn_r _ [36, 37, 6, 7, 8, 4, 9, 10, 11, 12, 30, 31, 32, 106, 107, 108, 109, 110, 111, 112, 113, 114, 115, 116, 117, 118, 119, 120, 121, 122, 123] (by decide +kernel) (by decide +kernel)) (goodIn_sub (fun _ h => List.mem_cons_of_mem _ (List.mem_append_right _ h)) (by decide +kernel))
set_option maxRecDepth 20000 in
theorem gX0_mixPlace_X0_hope : GoodIn wsX0_mixPlace (wsV RX0 222 RX0 yX0_hope wsX0_hope) := goodIn_app (goodIn_of _ (by decide +kernel)) ggX0_mixPlace_X0_hope
set_option maxRecDepth 20000 in
theorem ggX0_mixPlace_X0_examsFrom : GoodIn wsX0_mixPlace wsX0_examsFrom := goodIn_ca (goodIn_r _ [41, 42, 17, 6, 7, 8, 4, 9, 10, 11, 12, 43, 44, 45, 46, 47, 48, 49, 50, 51, 52, 106, 107, 108, 109, 110, 111, 112, 113, 114, 115, 116, 117, 118, 119, 120, 121, 122, 123] (by decide +kernel) (by decide +kernel)) (goodIn_sub (fun _ h => List.mem_cons_of_mem _ (List.mem_append_right _ h)) (by decide +kernel))
set_option maxRecDepth 20000 in
theorem gX0_mixPlace_X0_examsFrom : GoodIn wsX0_mixPlace (wsV RX0 225 RX0 yX0_examsFrom wsX0_examsFrom) := goodIn_app (goodIn_of _ (by decide +kernel)) ggX0_mixPlace_X0_examsFrom
set_option maxRecDepth 20000 in
theorem ggX0_mixPlace_X0_planLeadsTo : GoodIn wsX0_mixPlace wsX0_planLeadsTo := goodIn_ca (goodIn_r _ [56, 6, 7, 8, 4, 9, 10, 11, 12, 13, 14, 15, 16, 17, 18, 19, 20, 57, 58, 59, 60, 61, 62, 63, 64, 29, 37, 65, 66, 67, 68, 69, 70, 71, 72, 73, 74, 75, 30, 31, 32, 106, 107, 108, 109, 110, 111, 112, 113, 114, 115, 116, 117, 118, 119, 120, 121, 122, 123] (by decide +kernel) (by decide +kernel)) (goodIn_sub (fun _ h => List.mem_cons_of_mem _ (List.mem_append_right _ h)) (by decide +kernel))
set_option maxRecDepth 20000 in
theorem gX0_mixPlace_X0_planLeadsTo : GoodIn wsX0_mixPlace (wsV RX0 228 RX0 yX0_planLeadsTo wsX0_planLeadsTo) := goodIn_app (goodIn_of _ (by decide +kernel)) ggX0_mixPlace_X0_planLeadsTo
set_option maxRecDepth 20000 in
theorem ggX0_mixPlace_X0_holdsExam : GoodIn wsX0_mixPlace wsX0_holdsExam := goodIn_r _ [16, 17, 18, 19, 4, 20, 106, 107, 108, 109, 110, 111, 112, 113, 114, 115, 116, 117, 118, 119, 120, 121, 122, 123] (by decide +kernel) (by decide +kernel)
set_option maxRecDepth 20000 in
theorem gX0_mixPlace_X0_holdsExam : GoodIn wsX0_mixPlace (wsV RX0 135 RX0 yX0_holdsExam wsX0_holdsExam) := goodIn_app (goodIn_of _ (by decide +kernel)) ggX0_mixPlace_X0_holdsExam
set_option maxRecDepth 20000 in
theorem ggX0_mixPlace_X0_gradeOf : GoodIn wsX0_mixPlace wsX0_gradeOf := goodIn_ca (goodIn_r _ [79, 80, 81, 82, 83, 4, 84, 10, 11, 6, 7, 8, 9, 12, 13, 14, 15, 16, 17, 18, 19, 20, 30, 31, 32, 106, 107, 108, 109, 110, 111, 112, 113, 114, 115, 116, 117, 118, 119, 120, 121, 122, 123] (by decide +kernel) (by decide +kernel)) (goodIn_sub (fun _ h => List.mem_cons_of_mem _ (List.mem_append_right _ h)) (by decide +kernel))
set_option maxRecDepth 20000 in
theorem gX0_mixPlace_X0_gradeOf : GoodIn wsX0_mixPlace (wsV RX0 231 RX0 yX0_gradeOf wsX0_gradeOf) := goodIn_app (goodIn_of _ (by decide +kernel)) ggX0_mixPlace_X0_gradeOf
set_option maxRecDepth 20000 in
theorem ggX0_mixPlace_X0_leftOf : GoodIn wsX0_mixPlace wsX0_leftOf := goodIn_ca (goodIn_r _ [88, 75, 89, 90, 91, 4, 92, 10, 11, 6, 7, 8, 9, 12, 13, 14, 15, 16, 17, 18, 19, 20, 30, 31, 32, 106, 107, 108, 109, 110, 111, 112, 113, 114, 115, 116, 117, 118, 119, 120, 121, 122, 123] (by decide +kernel) (by decide +kernel)) (goodIn_sub (fun _ h => List.mem_cons_of_mem _ (List.mem_append_right _ h)) (by decide +kernel))
set_option maxRecDepth 20000 in
theorem gX0_mixPlace_X0_leftOf : GoodIn wsX0_mixPlace (wsV RX0 234 RX0 yX0_leftOf wsX0_leftOf) := goodIn_app (goodIn_of _ (by decide +kernel)) ggX0_mixPlace_X0_leftOf
set_option maxRecDepth 20000 in
theorem ggX0_mixPlace_X0_rightOf : GoodIn wsX0_mixPlace wsX0_rightOf := goodIn_ca (goodIn_r _ [96, 74, 89, 90, 91, 4, 92, 10, 11, 6, 7, 8, 9, 12, 13, 14, 15, 16, 17, 18, 19, 20, 30, 31, 32, 106, 107, 108, 109, 110, 111, 112, 113, 114, 115, 116, 117, 118, 119, 120, 121, 122, 123] (by decide +kernel) (by decide +kernel)) (goodIn_sub (fun _ h => List.mem_cons_of_mem _ (List.mem_append_right _ h)) (by decide +kernel))
set_option maxRecDepth 20000 in
theorem gX0_mixPlace_X0_rightOf : GoodIn wsX0_mixPlace (wsV RX0 237 RX0 yX0_rightOf wsX0_rightOf) := goodIn_app (goodIn_of _ (by decide +kernel)) ggX0_mixPlace_X0_rightOf
set_option maxRecDepth 20000 in
theorem ggX0_mixPlace_X0_weightOf : GoodIn wsX0_mixPlace wsX0_weightOf := goodIn_ca (goodIn_r _ [100, 69, 89, 90, 91, 4, 92, 10, 11, 6, 7, 8, 9, 12, 13, 14, 15, 16, 17, 18, 19, 20, 30, 31, 32, 106, 107, 108, 109, 110, 111, 112, 113, 114, 115, 116, 117, 118, 119, 120, 121, 122, 123] (by decide +kernel) (by decide +kernel)) (goodIn_sub (fun _ h => List.mem_cons_of_mem _ (List.mem_append_right _ h)) (by decide +kernel))
set_option maxRecDepth 20000 in
theorem gX0_mixPlace_X0_weightOf : GoodIn wsX0_mixPlace (wsV RX0 240 RX0 yX0_weightOf wsX0_weightOf) := goodIn_app (goodIn_of _ (by decide +kernel)) ggX0_mixPlace_X0_weightOf
set_option maxRecDepth 20000 in
theorem ggX0_mixPlace_X0_hindsight : GoodIn wsX0_mixPlace wsX0_hindsight := goodIn_ca (goodIn_r _ [104, 105, 89, 90, 91, 4, 92, 10, 11, 6, 7, 8, 9, 12, 13, 14, 15, 16, 17, 18, 19, 20, 30, 31, 32, 106, 107, 108, 109, 110, 111, 112, 113, 114, 115, 116, 117, 118, 119, 120, 121, 122, 123] (by decide +kernel) (by decide +kernel)) (goodIn_sub (fun _ h => List.mem_cons_of_mem _ (List.mem_append_right _ h)) (by decide +kernel))
set_option maxRecDepth 20000 in
theorem gX0_mixPlace_X0_hindsight : GoodIn wsX0_mixPlace (wsV RX0 243 RX0 yX0_hindsight wsX0_hindsight) := goodIn_app (goodIn_of _ (by decide +kernel)) ggX0_mixPlace_X0_hindsight
theorem dX0_mixPlace_0 : decode cX0_mixPlace 0 = .ok (.lload_n 1, 1) := by decide +kernel
theorem dX0_mixPlace_1 : decode cX0_mixPlace 1 = .ok (.aload_n 0, 1) := by decide +kernel
theorem dX0_mixPlace_2 : decode cX0_mixPlace 2 = .ok (.iload_n 3, 1) := by decide +kernel
theorem dX0_mixPlace_3 : decode cX0_mixPlace 3 = .ok (.invokevirtual 216, 3) := by decide +kernel
theorem dX0_mixPlace_6 : decode cX0_mixPlace 6 = .ok (.ifCond .eq 7, 3) := by decide +kernel
theorem dX0_mixPlace_9 : decode cX0_mixPlace 9 = .ok (.iconst 1, 1) := by decide +kernel
theorem dX0_mixPlace_10 : decode cX0_mixPlace 10 = .ok (.goto 4, 3) := by decide +kernel
theorem dX0_mixPlace_13 : decode cX0_mixPlace 13 = .ok (.iconst 0, 1) := by decide +kernel
theorem dX0_mixPlace_14 : decode cX0_mixPlace 14 = .ok (.invokestatic 185, 3) := by decide +kernel
theorem dX0_mixPlace_17 : decode cX0_mixPlace 17 = .ok (.lstore 4, 2) := by decide +kernel
theorem dX0_mixPlace_19 : decode cX0_mixPlace 19 = .ok (.lload 4, 2) := by decide +kernel
theorem dX0_mixPlace_21 : decode cX0_mixPlace 21 = .ok (.aload_n 0, 1) := by decide +kernel
theorem dX0_mixPlace_22 : decode cX0_mixPlace 22 = .ok (.iload_n 3, 1) := by decide +kernel
theorem dX0_mixPlace_23 : decode cX0_mixPlace 23 = .ok (.invokevirtual 219, 3) := by decide +kernel
theorem dX0_mixPlace_26 : decode cX0_mixPlace 26 = .ok (.invokestatic 185, 3) := by decide +kernel
theorem dX0_mixPlace_29 : decode cX0_mixPlace 29 = .ok (.lstore 4, 2) := by decide +kernel
theorem dX0_mixPlace_31 : decode cX0_mixPlace 31 = .ok (.lload 4, 2) := by decide +kernel
theorem dX0_mixPlace_33 : decode cX0_mixPlace 33 = .ok (.aload_n 0, 1) := by decide +kernel
theorem dX0_mixPlace_34 : decode cX0_mixPlace 34 = .ok (.iload_n 3, 1) := by decide +kernel
theorem dX0_mixPlace_35 : decode cX0_mixPlace 35 = .ok (.invokevirtual 222, 3) := by decide +kernel
theorem dX0_mixPlace_38 : decode cX0_mixPlace 38 = .ok (.invokestatic 185, 3) := by decide +kernel
theorem dX0_mixPlace_41 : decode cX0_mixPlace 41 = .ok (.lstore 4, 2) := by decide +kernel
theorem dX0_mixPlace_43 : decode cX0_mixPlace 43 = .ok (.lload 4, 2) := by decide +kernel
theorem dX0_mixPlace_45 : decode cX0_mixPlace 45 = .ok (.aload_n 0, 1) := by decide +kernel
theorem dX0_mixPlace_46 : decode cX0_mixPlace 46 = .ok (.iload_n 3, 1) := by decide +kernel
theorem dX0_mixPlace_47 : decode cX0_mixPlace 47 = .ok (.invokevirtual 225, 3) := by decide +kernel
theorem dX0_mixPlace_50 : decode cX0_mixPlace 50 = .ok (.invokestatic 185, 3) := by decide +kernel
theorem dX0_mixPlace_53 : decode cX0_mixPlace 53 = .ok (.lstore 4, 2) := by decide +kernel
theorem dX0_mixPlace_55 : decode cX0_mixPlace 55 = .ok (.lload 4, 2) := by decide +kernel
theorem dX0_mixPlace_57 : decode cX0_mixPlace 57 = .ok (.aload_n 0, 1) := by decide +kernel
theorem dX0_mixPlace_58 : decode cX0_mixPlace 58 = .ok (.iload_n 3, 1) := by decide +kernel
theorem dX0_mixPlace_59 : decode cX0_mixPlace 59 = .ok (.invokevirtual 228, 3) := by decide +kernel
theorem dX0_mixPlace_62 : decode cX0_mixPlace 62 = .ok (.invokestatic 185, 3) := by decide +kernel
theorem dX0_mixPlace_65 : decode cX0_mixPlace 65 = .ok (.lstore 4, 2) := by decide +kernel
theorem dX0_mixPlace_67 : decode cX0_mixPlace 67 = .ok (.aload_n 0, 1) := by decide +kernel
theorem dX0_mixPlace_68 : decode cX0_mixPlace 68 = .ok (.iload_n 3, 1) := by decide +kernel
theorem dX0_mixPlace_69 : decode cX0_mixPlace 69 = .ok (.invokevirtual 135, 3) := by decide +kernel
theorem dX0_mixPlace_72 : decode cX0_mixPlace 72 = .ok (.ifCond .eq 14, 3) := by decide +kernel
theorem dX0_mixPlace_75 : decode cX0_mixPlace 75 = .ok (.lload 4, 2) := by decide +kernel
theorem dX0_mixPlace_77 : decode cX0_mixPlace 77 = .ok (.aload_n 0, 1) := by decide +kernel
theorem dX0_mixPlace_78 : decode cX0_mixPlace 78 = .ok (.iload_n 3, 1) := by decide +kernel
theorem dX0_mixPlace_79 : decode cX0_mixPlace 79 = .ok (.invokevirtual 231, 3) := by decide +kernel
theorem dX0_mixPlace_82 : decode cX0_mixPlace 82 = .ok (.invokestatic 185, 3) := by decide +kernel
theorem dX0_mixPlace_85 : decode cX0_mixPlace 85 = .ok (.lreturn, 1) := by decide +kernel
theorem dX0_mixPlace_86 : decode cX0_mixPlace 86 = .ok (.lload 4, 2) := by decide +kernel
theorem dX0_mixPlace_88 : decode cX0_mixPlace 88 = .ok (.aload_n 0, 1) := by decide +kernel
theorem dX0_mixPlace_89 : decode cX0_mixPlace 89 = .ok (.iload_n 3, 1) := by decide +kernel
theorem dX0_mixPlace_90 : decode cX0_mixPlace 90 = .ok (.invokevirtual 234, 3) := by decide +kernel
theorem dX0_mixPlace_93 : decode cX0_mixPlace 93 = .ok (.invokestatic 185, 3) := by decide +kernel
theorem dX0_mixPlace_96 : decode cX0_mixPlace 96 = .ok (.lstore 4, 2) := by decide +kernel
theorem dX0_mixPlace_98 : decode cX0_mixPlace 98 = .ok (.lload 4, 2) := by decide +kernel
theorem dX0_mixPlace_100 : decode cX0_mixPlace 100 = .ok (.aload_n 0, 1) := by decide +kernel
theorem dX0_mixPlace_101 : decode cX0_mixPlace 101 = .ok (.iload_n 3, 1) := by decide +kernel
theorem dX0_mixPlace_102 : decode cX0_mixPlace 102 = .ok (.invokevirtual 237, 3) := by decide +kernel
theorem dX0_mixPlace_105 : decode cX0_mixPlace 105 = .ok (.invokestatic 185, 3) := by decide +kernel
theorem dX0_mixPlace_108 : decode cX0_mixPlace 108 = .ok (.lstore 4, 2) := by decide +kernel
theorem dX0_mixPlace_110 : decode cX0_mixPlace 110 = .ok (.lload 4, 2) := by decide +kernel
theorem dX0_mixPlace_112 : decode cX0_mixPlace 112 = .ok (.aload_n 0, 1) := by decide +kernel
theorem dX0_mixPlace_113 : decode cX0_mixPlace 113 = .ok (.iload_n 3, 1) := by decide +kernel
theorem dX0_mixPlace_114 : decode cX0_mixPlace 114 = .ok (.invokevirtual 240, 3) := by decide +kernel
theorem dX0_mixPlace_117 : decode cX0_mixPlace 117 = .ok (.invokestatic 185, 3) := by decide +kernel
theorem dX0_mixPlace_120 : decode cX0_mixPlace 120 = .ok (.lstore 4, 2) := by decide +kernel
theorem dX0_mixPlace_122 : decode cX0_mixPlace 122 = .ok (.lload 4, 2) := by decide +kernel
theorem dX0_mixPlace_124 : decode cX0_mixPlace 124 = .ok (.aload_n 0, 1) := by decide +kernel
theorem dX0_mixPlace_125 : decode cX0_mixPlace 125 = .ok (.iload_n 3, 1) := by decide +kernel
theorem dX0_mixPlace_126 : decode cX0_mixPlace 126 = .ok (.invokevirtual 243, 3) := by decide +kernel
theorem dX0_mixPlace_129 : decode cX0_mixPlace 129 = .ok (.invokestatic 185, 3) := by decide +kernel
theorem dX0_mixPlace_132 : decode cX0_mixPlace 132 = .ok (.lreturn, 1) := by decide +kernel
theorem dX0_mix_0 : decode cX0_mix 0 = .ok (.lload_n 0, 1) := by decide +kernel
theorem dX0_mix_1 : decode cX0_mix 1 = .ok (.ldc2_w 246, 3) := by decide +kernel
theorem dX0_mix_4 : decode cX0_mix 4 = .ok (.lmul, 1) := by decide +kernel
theorem dX0_mix_5 : decode cX0_mix 5 = .ok (.iload_n 2, 1) := by decide +kernel
theorem dX0_mix_6 : decode cX0_mix 6 = .ok (.i2l, 1) := by decide +kernel
theorem dX0_mix_7 : decode cX0_mix 7 = .ok (.ladd, 1) := by decide +kernel
theorem dX0_mix_8 : decode cX0_mix 8 = .ok (.lreturn, 1) := by decide +kernel
theorem dX0_requireRoom_0 : decode cX0_requireRoom 0 = .ok (.aload_n 0, 1) := by decide +kernel
theorem dX0_requireRoom_1 : decode cX0_requireRoom 1 = .ok (.getfield 60, 3) := by decide +kernel
theorem dX0_requireRoom_4 : decode cX0_requireRoom 4 = .ok (.bipush 40, 2) := by decide +kernel
theorem dX0_requireRoom_6 : decode cX0_requireRoom 6 = .ok (.if_icmp .lt 13, 3) := by decide +kernel
theorem dX0_requireRoom_9 : decode cX0_requireRoom 9 = .ok (.new 110, 3) := by decide +kernel
theorem dX0_requireRoom_12 : decode cX0_requireRoom 12 = .ok (.dup, 1) := by decide +kernel
theorem dX0_requireRoom_13 : decode cX0_requireRoom 13 = .ok (.ldc 248, 2) := by decide +kernel
theorem dX0_requireRoom_15 : decode cX0_requireRoom 15 = .ok (.invokespecial 114, 3) := by decide +kernel
theorem dX0_requireRoom_18 : decode cX0_requireRoom 18 = .ok (.athrow, 1) := by decide +kernel
theorem dX0_requireRoom_19 : decode cX0_requireRoom 19 = .ok (.return_, 1) := by decide +kernel
theorem dX0_requirePlace_0 : decode cX0_requirePlace 0 = .ok (.iload_n 1, 1) := by decide +kernel
theorem dX0_requirePlace_1 : decode cX0_requirePlace 1 = .ok (.ifCond .lt 11, 3) := by decide +kernel
theorem dX0_requirePlace_4 : decode cX0_requirePlace 4 = .ok (.iload_n 1, 1) := by decide +kernel
theorem dX0_requirePlace_5 : decode cX0_requirePlace 5 = .ok (.aload_n 0, 1) := by decide +kernel
theorem dX0_requirePlace_6 : decode cX0_requirePlace 6 = .ok (.getfield 60, 3) := by decide +kernel
theorem dX0_requirePlace_9 : decode cX0_requirePlace 9 = .ok (.if_icmp .lt 13, 3) := by decide +kernel
theorem dX0_requirePlace_12 : decode cX0_requirePlace 12 = .ok (.new 250, 3) := by decide +kernel
theorem dX0_requirePlace_15 : decode cX0_requirePlace 15 = .ok (.dup, 1) := by decide +kernel
theorem dX0_requirePlace_16 : decode cX0_requirePlace 16 = .ok (.ldc 252, 2) := by decide +kernel
theorem dX0_requirePlace_18 : decode cX0_requirePlace 18 = .ok (.invokespecial 254, 3) := by decide +kernel
theorem dX0_requirePlace_21 : decode cX0_requirePlace 21 = .ok (.athrow, 1) := by decide +kernel
theorem dX0_requirePlace_22 : decode cX0_requirePlace 22 = .ok (.return_, 1) := by decide +kernel
set_option maxRecDepth 20000 in
theorem ggX0_requireExam_X0_requirePlace : GoodIn wsX0_requireExam wsX0_requirePlace := goodIn_ca (goodIn_r _ [7, 1, 2, 8, 17, 18, 19, 20, 21, 22, 23, 24, 25, 26, 27, 28, 29, 30, 31, 32, 33, 34] (by decide +kernel) (by decide +kernel)) (goodIn_sub (fun _ h => List.mem_cons_of_mem _ (List.mem_append_right _ h)) (by decide +kernel))
set_option maxRecDepth 20000 in
theorem gX0_requireExam_X0_requirePlace : GoodIn wsX0_requireExam (wsV RX0 84 RX0 yX0_requirePlace wsX0_requirePlace) := goodIn_app (goodIn_of _ (by decide +kernel)) ggX0_requireExam_X0_requirePlace
set_option maxRecDepth 20000 in
theorem ggX0_requireExam_X0_holdsExam : GoodIn wsX0_requireExam wsX0_holdsExam := goodIn_r _ [12, 13, 14, 15, 6, 16, 17, 18, 19, 20, 21, 22, 23, 24, 25, 26, 27, 28, 29, 30, 31, 32, 33, 34] (by decide +kernel) (by decide +kernel)
set_option maxRecDepth 20000 in
theorem gX0_requireExam_X0_holdsExam : GoodIn wsX0_requireExam (wsV RX0 135 RX0 yX0_holdsExam wsX0_holdsExam) := goodIn_app (goodIn_of _ (by decide +kernel)) ggX0_requireExam_X0_holdsExam
theorem dX0_requireExam_0 : decode cX0_requireExam 0 = .ok (.aload_n 0, 1) := by decide +kernel
theorem dX0_requireExam_1 : decode cX0_requireExam 1 = .ok (.iload_n 1, 1) := by decide +kernel
theorem dX0_requireExam_2 : decode cX0_requireExam 2 = .ok (.invokevirtual 84, 3) := by decide +kernel
theorem dX0_requireExam_5 : decode cX0_requireExam 5 = .ok (.aload_n 0, 1) := by decide +kernel
theorem dX0_requireExam_6 : decode cX0_requireExam 6 = .ok (.iload_n 1, 1) := by decide +kernel
theorem dX0_requireExam_7 : decode cX0_requireExam 7 = .ok (.invokevirtual 135, 3) := by decide +kernel
theorem dX0_requireExam_10 : decode cX0_requireExam 10 = .ok (.ifCond .ne 13, 3) := by decide +kernel
theorem dX0_requireExam_13 : decode cX0_requireExam 13 = .ok (.new 250, 3) := by decide +kernel
theorem dX0_requireExam_16 : decode cX0_requireExam 16 = .ok (.dup, 1) := by decide +kernel
theorem dX0_requireExam_17 : decode cX0_requireExam 17 = .ok (.ldc 255, 2) := by decide +kernel
theorem dX0_requireExam_19 : decode cX0_requireExam 19 = .ok (.invokespecial 254, 3) := by decide +kernel
theorem dX0_requireExam_22 : decode cX0_requireExam 22 = .ok (.athrow, 1) := by decide +kernel
theorem dX0_requireExam_23 : decode cX0_requireExam 23 = .ok (.return_, 1) := by decide +kernel
set_option maxRecDepth 20000 in
theorem ggX0_requireFork_X0_requirePlace : GoodIn wsX0_requireFork wsX0_requirePlace := goodIn_ca (goodIn_r _ [7, 1, 2, 8, 17, 18, 19, 20, 21, 22, 23, 24, 25, 26, 27, 28, 29, 30, 31, 32, 33, 34] (by decide +kernel) (by decide +kernel)) (goodIn_sub (fun _ h => List.mem_cons_of_mem _ (List.mem_append_right _ h)) (by decide +kernel))
set_option maxRecDepth 20000 in
theorem gX0_requireFork_X0_requirePlace : GoodIn wsX0_requireFork (wsV RX0 84 RX0 yX0_requirePlace wsX0_requirePlace) := goodIn_app (goodIn_of _ (by decide +kernel)) ggX0_requireFork_X0_requirePlace
set_option maxRecDepth 20000 in
theorem ggX0_requireFork_X0_holdsExam : GoodIn wsX0_requireFork wsX0_holdsExam := goodIn_r _ [12, 13, 14, 15, 6, 16, 17, 18, 19, 20, 21, 22, 23, 24, 25, 26, 27, 28, 29, 30, 31, 32, 33, 34] (by decide +kernel) (by decide +kernel)
set_option maxRecDepth 20000 in
theorem gX0_requireFork_X0_holdsExam : GoodIn wsX0_requireFork (wsV RX0 135 RX0 yX0_holdsExam wsX0_holdsExam) := goodIn_app (goodIn_of _ (by decide +kernel)) ggX0_requireFork_X0_holdsExam
theorem dX0_requireFork_0 : decode cX0_requireFork 0 = .ok (.aload_n 0, 1) := by decide +kernel
theorem dX0_requireFork_1 : decode cX0_requireFork 1 = .ok (.iload_n 1, 1) := by decide +kernel
theorem dX0_requireFork_2 : decode cX0_requireFork 2 = .ok (.invokevirtual 84, 3) := by decide +kernel
theorem dX0_requireFork_5 : decode cX0_requireFork 5 = .ok (.aload_n 0, 1) := by decide +kernel
theorem dX0_requireFork_6 : decode cX0_requireFork 6 = .ok (.iload_n 1, 1) := by decide +kernel
theorem dX0_requireFork_7 : decode cX0_requireFork 7 = .ok (.invokevirtual 135, 3) := by decide +kernel
theorem dX0_requireFork_10 : decode cX0_requireFork 10 = .ok (.ifCond .eq 14, 3) := by decide +kernel
theorem dX0_requireFork_13 : decode cX0_requireFork 13 = .ok (.new 250, 3) := by decide +kernel
theorem dX0_requireFork_16 : decode cX0_requireFork 16 = .ok (.dup, 1) := by decide +kernel
theorem dX0_requireFork_17 : decode cX0_requireFork 17 = .ok (.ldc_w 257, 3) := by decide +kernel
theorem dX0_requireFork_20 : decode cX0_requireFork 20 = .ok (.invokespecial 254, 3) := by decide +kernel
theorem dX0_requireFork_23 : decode cX0_requireFork 23 = .ok (.athrow, 1) := by decide +kernel
theorem dX0_requireFork_24 : decode cX0_requireFork 24 = .ok (.return_, 1) := by decide +kernel
theorem dX0_requireWeight_0 : decode cX0_requireWeight 0 = .ok (.iload_n 0, 1) := by decide +kernel
theorem dX0_requireWeight_1 : decode cX0_requireWeight 1 = .ok (.iconst 1, 1) := by decide +kernel
theorem dX0_requireWeight_2 : decode cX0_requireWeight 2 = .ok (.if_icmp .lt 9, 3) := by decide +kernel
theorem dX0_requireWeight_5 : decode cX0_requireWeight 5 = .ok (.iload_n 0, 1) := by decide +kernel
theorem dX0_requireWeight_6 : decode cX0_requireWeight 6 = .ok (.bipush 9, 2) := by decide +kernel
theorem dX0_requireWeight_8 : decode cX0_requireWeight 8 = .ok (.if_icmp .le 14, 3) := by decide +kernel
theorem dX0_requireWeight_11 : decode cX0_requireWeight 11 = .ok (.new 50, 3) := by decide +kernel
theorem dX0_requireWeight_14 : decode cX0_requireWeight 14 = .ok (.dup, 1) := by decide +kernel
theorem dX0_requireWeight_15 : decode cX0_requireWeight 15 = .ok (.ldc_w 259, 3) := by decide +kernel
theorem dX0_requireWeight_18 : decode cX0_requireWeight 18 = .ok (.invokespecial 54, 3) := by decide +kernel
theorem dX0_requireWeight_21 : decode cX0_requireWeight 21 = .ok (.athrow, 1) := by decide +kernel
theorem dX0_requireWeight_22 : decode cX0_requireWeight 22 = .ok (.return_, 1) := by decide +kernel
theorem dX0_requireStudent_0 : decode cX0_requireStudent 0 = .ok (.iload_n 1, 1) := by decide +kernel
theorem dX0_requireStudent_1 : decode cX0_requireStudent 1 = .ok (.ifCond .lt 11, 3) := by decide +kernel
theorem dX0_requireStudent_4 : decode cX0_requireStudent 4 = .ok (.iload_n 1, 1) := by decide +kernel
theorem dX0_requireStudent_5 : decode cX0_requireStudent 5 = .ok (.aload_n 0, 1) := by decide +kernel
theorem dX0_requireStudent_6 : decode cX0_requireStudent 6 = .ok (.getfield 127, 3) := by decide +kernel
theorem dX0_requireStudent_9 : decode cX0_requireStudent 9 = .ok (.if_icmp .lt 14, 3) := by decide +kernel
theorem dX0_requireStudent_12 : decode cX0_requireStudent 12 = .ok (.new 250, 3) := by decide +kernel
theorem dX0_requireStudent_15 : decode cX0_requireStudent 15 = .ok (.dup, 1) := by decide +kernel
theorem dX0_requireStudent_16 : decode cX0_requireStudent 16 = .ok (.ldc_w 261, 3) := by decide +kernel
theorem dX0_requireStudent_19 : decode cX0_requireStudent 19 = .ok (.invokespecial 254, 3) := by decide +kernel
theorem dX0_requireStudent_22 : decode cX0_requireStudent 22 = .ok (.athrow, 1) := by decide +kernel
theorem dX0_requireStudent_23 : decode cX0_requireStudent 23 = .ok (.return_, 1) := by decide +kernel
set_option maxRecDepth 20000 in
theorem ggX0_requireGraded_X0_at : GoodIn wsX0_requireGraded wsX0_at := goodIn_r _ [7] (by decide +kernel) (by decide +kernel)
set_option maxRecDepth 20000 in
theorem gX0_requireGraded_X0_at : GoodIn wsX0_requireGraded (va_wsS RX0 100 yX0_at wsX0_at) := goodIn_app (goodIn_of _ (by decide +kernel)) ggX0_requireGraded_X0_at
set_option maxRecDepth 20000 in
theorem ggX0_requireGraded_X0_hasGrade : GoodIn wsX0_requireGraded wsX0_hasGrade := goodIn_r _ [11, 12, 4, 5, 6, 7, 13, 14, 15, 16, 17, 18, 19, 20, 21, 22, 23, 24, 25, 26, 27, 28, 29, 30] (by decide +kernel) (by decide +kernel)
set_option maxRecDepth 20000 in
theorem gX0_requireGraded_X0_hasGrade : GoodIn wsX0_requireGraded (wsV RX0 106 RX0 yX0_hasGrade wsX0_hasGrade) := goodIn_app (goodIn_of _ (by decide +kernel)) ggX0_requireGraded_X0_hasGrade
theorem dX0_requireGraded_0 : decode cX0_requireGraded 0 = .ok (.aload_n 0, 1) := by decide +kernel
theorem dX0_requireGraded_1 : decode cX0_requireGraded 1 = .ok (.aload_n 0, 1) := by decide +kernel
theorem dX0_requireGraded_2 : decode cX0_requireGraded 2 = .ok (.getfield 41, 3) := by decide +kernel
theorem dX0_requireGraded_5 : decode cX0_requireGraded 5 = .ok (.iload_n 1, 1) := by decide +kernel
theorem dX0_requireGraded_6 : decode cX0_requireGraded 6 = .ok (.invokestatic 100, 3) := by decide +kernel
theorem dX0_requireGraded_9 : decode cX0_requireGraded 9 = .ok (.invokevirtual 106, 3) := by decide +kernel
theorem dX0_requireGraded_12 : decode cX0_requireGraded 12 = .ok (.ifCond .ne 14, 3) := by decide +kernel
theorem dX0_requireGraded_15 : decode cX0_requireGraded 15 = .ok (.new 110, 3) := by decide +kernel
theorem dX0_requireGraded_18 : decode cX0_requireGraded 18 = .ok (.dup, 1) := by decide +kernel
theorem dX0_requireGraded_19 : decode cX0_requireGraded 19 = .ok (.ldc_w 263, 3) := by decide +kernel
theorem dX0_requireGraded_22 : decode cX0_requireGraded 22 = .ok (.invokespecial 114, 3) := by decide +kernel
theorem dX0_requireGraded_25 : decode cX0_requireGraded 25 = .ok (.athrow, 1) := by decide +kernel
theorem dX0_requireGraded_26 : decode cX0_requireGraded 26 = .ok (.return_, 1) := by decide +kernel
set_option maxRecDepth 20000 in
theorem ggX0_holdsExam_X0_bitOf : GoodIn wsX0_holdsExam wsX0_bitOf := goodIn_r _ [5] (by decide +kernel) (by decide +kernel)
set_option maxRecDepth 20000 in
theorem gX0_holdsExam_X0_bitOf : GoodIn wsX0_holdsExam (va_wsS RX0 68 yX0_bitOf wsX0_bitOf) := goodIn_app (goodIn_of _ (by decide +kernel)) ggX0_holdsExam_X0_bitOf
theorem dX0_holdsExam_0 : decode cX0_holdsExam 0 = .ok (.aload_n 0, 1) := by decide +kernel
theorem dX0_holdsExam_1 : decode cX0_holdsExam 1 = .ok (.getfield 64, 3) := by decide +kernel
theorem dX0_holdsExam_4 : decode cX0_holdsExam 4 = .ok (.iload_n 1, 1) := by decide +kernel
theorem dX0_holdsExam_5 : decode cX0_holdsExam 5 = .ok (.invokestatic 68, 3) := by decide +kernel
theorem dX0_holdsExam_8 : decode cX0_holdsExam 8 = .ok (.land, 1) := by decide +kernel
theorem dX0_holdsExam_9 : decode cX0_holdsExam 9 = .ok (.lconst 0, 1) := by decide +kernel
theorem dX0_holdsExam_10 : decode cX0_holdsExam 10 = .ok (.lcmp, 1) := by decide +kernel
theorem dX0_holdsExam_11 : decode cX0_holdsExam 11 = .ok (.ifCond .eq 7, 3) := by decide +kernel
theorem dX0_holdsExam_14 : decode cX0_holdsExam 14 = .ok (.iconst 1, 1) := by decide +kernel
theorem dX0_holdsExam_15 : decode cX0_holdsExam 15 = .ok (.goto 4, 3) := by decide +kernel
theorem dX0_holdsExam_18 : decode cX0_holdsExam 18 = .ok (.iconst 0, 1) := by decide +kernel
theorem dX0_holdsExam_19 : decode cX0_holdsExam 19 = .ok (.ireturn, 1) := by decide +kernel
set_option maxRecDepth 20000 in
theorem ggX0_hasGrade_X0_at : GoodIn wsX0_hasGrade wsX0_at := goodIn_r _ [5] (by decide +kernel) (by decide +kernel)
set_option maxRecDepth 20000 in
theorem gX0_hasGrade_X0_at : GoodIn wsX0_hasGrade (va_wsS RX0 100 yX0_at wsX0_at) := goodIn_app (goodIn_of _ (by decide +kernel)) ggX0_hasGrade_X0_at
theorem dX0_hasGrade_0 : decode cX0_hasGrade 0 = .ok (.aload_n 0, 1) := by decide +kernel
theorem dX0_hasGrade_1 : decode cX0_hasGrade 1 = .ok (.getfield 25, 3) := by decide +kernel
theorem dX0_hasGrade_4 : decode cX0_hasGrade 4 = .ok (.iload_n 1, 1) := by decide +kernel
theorem dX0_hasGrade_5 : decode cX0_hasGrade 5 = .ok (.invokestatic 100, 3) := by decide +kernel
theorem dX0_hasGrade_8 : decode cX0_hasGrade 8 = .ok (.iconst (-1), 1) := by decide +kernel
theorem dX0_hasGrade_9 : decode cX0_hasGrade 9 = .ok (.if_icmp .eq 7, 3) := by decide +kernel
theorem dX0_hasGrade_12 : decode cX0_hasGrade 12 = .ok (.iconst 1, 1) := by decide +kernel
theorem dX0_hasGrade_13 : decode cX0_hasGrade 13 = .ok (.goto 4, 3) := by decide +kernel
theorem dX0_hasGrade_16 : decode cX0_hasGrade 16 = .ok (.iconst 0, 1) := by decide +kernel
theorem dX0_hasGrade_17 : decode cX0_hasGrade 17 = .ok (.ireturn, 1) := by decide +kernel
set_option maxRecDepth 20000 in
theorem ggX0_settleExam_X0_hasGrade : GoodIn wsX0_settleExam wsX0_hasGrade := goodIn_r _ [11, 1, 12, 13, 10, 14, 18, 19, 20, 21, 22, 23, 24, 25, 26, 27, 28, 29, 30, 31, 32, 33, 34, 35] (by decide +kernel) (by decide +kernel)
set_option maxRecDepth 20000 in
theorem gX0_settleExam_X0_hasGrade : GoodIn wsX0_settleExam (wsV RX0 106 RX0 yX0_hasGrade wsX0_hasGrade) := goodIn_app (goodIn_of _ (by decide +kernel)) ggX0_settleExam_X0_hasGrade
set_option maxRecDepth 20000 in
theorem ggX0_settleExam_X0_at : GoodIn wsX0_settleExam wsX0_at := goodIn_r _ [14] (by decide +kernel) (by decide +kernel)
set_option maxRecDepth 20000 in
theorem gX0_settleExam_X0_at : GoodIn wsX0_settleExam (va_wsS RX0 100 yX0_at wsX0_at) := goodIn_app (goodIn_of _ (by decide +kernel)) ggX0_settleExam_X0_at
set_option maxRecDepth 20000 in
theorem ggX0_settleExam_X0_put : GoodIn wsX0_settleExam wsX0_put := goodIn_r _ [17] (by decide +kernel) (by decide +kernel)
set_option maxRecDepth 20000 in
theorem gX0_settleExam_X0_put : GoodIn wsX0_settleExam (va_wsS RX0 72 yX0_put wsX0_put) := goodIn_app (goodIn_of _ (by decide +kernel)) ggX0_settleExam_X0_put
theorem dX0_settleExam_0 : decode cX0_settleExam 0 = .ok (.aload_n 0, 1) := by decide +kernel
theorem dX0_settleExam_1 : decode cX0_settleExam 1 = .ok (.iload_n 1, 1) := by decide +kernel
theorem dX0_settleExam_2 : decode cX0_settleExam 2 = .ok (.invokevirtual 106, 3) := by decide +kernel
theorem dX0_settleExam_5 : decode cX0_settleExam 5 = .ok (.ifCond .ne 7, 3) := by decide +kernel
theorem dX0_settleExam_8 : decode cX0_settleExam 8 = .ok (.iconst 1, 1) := by decide +kernel
theorem dX0_settleExam_9 : decode cX0_settleExam 9 = .ok (.goto 4, 3) := by decide +kernel
theorem dX0_settleExam_12 : decode cX0_settleExam 12 = .ok (.iconst 0, 1) := by decide +kernel
theorem dX0_settleExam_13 : decode cX0_settleExam 13 = .ok (.istore_n 2, 1) := by decide +kernel
theorem dX0_settleExam_14 : decode cX0_settleExam 14 = .ok (.aload_n 0, 1) := by decide +kernel
theorem dX0_settleExam_15 : decode cX0_settleExam 15 = .ok (.getfield 25, 3) := by decide +kernel
theorem dX0_settleExam_18 : decode cX0_settleExam 18 = .ok (.iload_n 1, 1) := by decide +kernel
theorem dX0_settleExam_19 : decode cX0_settleExam 19 = .ok (.invokestatic 100, 3) := by decide +kernel
theorem dX0_settleExam_22 : decode cX0_settleExam 22 = .ok (.istore_n 3, 1) := by decide +kernel
theorem dX0_settleExam_23 : decode cX0_settleExam 23 = .ok (.aload_n 0, 1) := by decide +kernel
theorem dX0_settleExam_24 : decode cX0_settleExam 24 = .ok (.getfield 28, 3) := by decide +kernel
theorem dX0_settleExam_27 : decode cX0_settleExam 27 = .ok (.iload_n 1, 1) := by decide +kernel
theorem dX0_settleExam_28 : decode cX0_settleExam 28 = .ok (.iload_n 2, 1) := by decide +kernel
theorem dX0_settleExam_29 : decode cX0_settleExam 29 = .ok (.ifCond .eq 14, 3) := by decide +kernel
theorem dX0_settleExam_32 : decode cX0_settleExam 32 = .ok (.aload_n 0, 1) := by decide +kernel
theorem dX0_settleExam_33 : decode cX0_settleExam 33 = .ok (.getfield 9, 3) := by decide +kernel
theorem dX0_settleExam_36 : decode cX0_settleExam 36 = .ok (.iload_n 1, 1) := by decide +kernel
theorem dX0_settleExam_37 : decode cX0_settleExam 37 = .ok (.invokestatic 100, 3) := by decide +kernel
theorem dX0_settleExam_40 : decode cX0_settleExam 40 = .ok (.goto 4, 3) := by decide +kernel
theorem dX0_settleExam_43 : decode cX0_settleExam 43 = .ok (.iload_n 3, 1) := by decide +kernel
theorem dX0_settleExam_44 : decode cX0_settleExam 44 = .ok (.invokestatic 72, 3) := by decide +kernel
theorem dX0_settleExam_47 : decode cX0_settleExam 47 = .ok (.aload_n 0, 1) := by decide +kernel
theorem dX0_settleExam_48 : decode cX0_settleExam 48 = .ok (.getfield 31, 3) := by decide +kernel
theorem dX0_settleExam_51 : decode cX0_settleExam 51 = .ok (.iload_n 1, 1) := by decide +kernel
theorem dX0_settleExam_52 : decode cX0_settleExam 52 = .ok (.iload_n 2, 1) := by decide +kernel
theorem dX0_settleExam_53 : decode cX0_settleExam 53 = .ok (.ifCond .eq 14, 3) := by decide +kernel
theorem dX0_settleExam_56 : decode cX0_settleExam 56 = .ok (.aload_n 0, 1) := by decide +kernel
theorem dX0_settleExam_57 : decode cX0_settleExam 57 = .ok (.getfield 13, 3) := by decide +kernel
theorem dX0_settleExam_60 : decode cX0_settleExam 60 = .ok (.iload_n 1, 1) := by decide +kernel
theorem dX0_settleExam_61 : decode cX0_settleExam 61 = .ok (.invokestatic 100, 3) := by decide +kernel
theorem dX0_settleExam_64 : decode cX0_settleExam 64 = .ok (.goto 4, 3) := by decide +kernel
theorem dX0_settleExam_67 : decode cX0_settleExam 67 = .ok (.iload_n 3, 1) := by decide +kernel
theorem dX0_settleExam_68 : decode cX0_settleExam 68 = .ok (.invokestatic 72, 3) := by decide +kernel
theorem dX0_settleExam_71 : decode cX0_settleExam 71 = .ok (.aload_n 0, 1) := by decide +kernel
theorem dX0_settleExam_72 : decode cX0_settleExam 72 = .ok (.getfield 34, 3) := by decide +kernel
theorem dX0_settleExam_75 : decode cX0_settleExam 75 = .ok (.iload_n 1, 1) := by decide +kernel
theorem dX0_settleExam_76 : decode cX0_settleExam 76 = .ok (.iload_n 2, 1) := by decide +kernel
theorem dX0_settleExam_77 : decode cX0_settleExam 77 = .ok (.ifCond .eq 7, 3) := by decide +kernel
theorem dX0_settleExam_80 : decode cX0_settleExam 80 = .ok (.iconst 0, 1) := by decide +kernel
theorem dX0_settleExam_81 : decode cX0_settleExam 81 = .ok (.goto 4, 3) := by decide +kernel
theorem dX0_settleExam_84 : decode cX0_settleExam 84 = .ok (.iload_n 3, 1) := by decide +kernel
theorem dX0_settleExam_85 : decode cX0_settleExam 85 = .ok (.invokestatic 72, 3) := by decide +kernel
theorem dX0_settleExam_88 : decode cX0_settleExam 88 = .ok (.return_, 1) := by decide +kernel
set_option maxRecDepth 20000 in
theorem ggX0_settleFork_X0_settleGreater : GoodIn wsX0_settleFork wsX0_settleGreater := goodIn_r _ [8, 9, 10, 11, 12, 13, 14, 15, 16, 7, 17, 18, 19, 20, 21, 22, 23, 24, 25, 26, 27, 28, 29, 30, 31, 32, 33, 34, 35, 36, 37, 38] (by decide +kernel) (by decide +kernel)
set_option maxRecDepth 20000 in
theorem gX0_settleFork_X0_settleGreater : GoodIn wsX0_settleFork (wsV RX0 265 RX0 yX0_settleGreater wsX0_settleGreater) := goodIn_app (goodIn_of _ (by decide +kernel)) ggX0_settleFork_X0_settleGreater
theorem dX0_settleFork_0 : decode cX0_settleFork 0 = .ok (.aload_n 0, 1) := by decide +kernel
theorem dX0_settleFork_1 : decode cX0_settleFork 1 = .ok (.aload_n 0, 1) := by decide +kernel
theorem dX0_settleFork_2 : decode cX0_settleFork 2 = .ok (.getfield 28, 3) := by decide +kernel
theorem dX0_settleFork_5 : decode cX0_settleFork 5 = .ok (.iload_n 1, 1) := by decide +kernel
theorem dX0_settleFork_6 : decode cX0_settleFork 6 = .ok (.invokevirtual 265, 3) := by decide +kernel
theorem dX0_settleFork_9 : decode cX0_settleFork 9 = .ok (.aload_n 0, 1) := by decide +kernel
theorem dX0_settleFork_10 : decode cX0_settleFork 10 = .ok (.aload_n 0, 1) := by decide +kernel
theorem dX0_settleFork_11 : decode cX0_settleFork 11 = .ok (.getfield 31, 3) := by decide +kernel
theorem dX0_settleFork_14 : decode cX0_settleFork 14 = .ok (.iload_n 1, 1) := by decide +kernel
theorem dX0_settleFork_15 : decode cX0_settleFork 15 = .ok (.invokevirtual 265, 3) := by decide +kernel
theorem dX0_settleFork_18 : decode cX0_settleFork 18 = .ok (.aload_n 0, 1) := by decide +kernel
theorem dX0_settleFork_19 : decode cX0_settleFork 19 = .ok (.aload_n 0, 1) := by decide +kernel
theorem dX0_settleFork_20 : decode cX0_settleFork 20 = .ok (.getfield 34, 3) := by decide +kernel
theorem dX0_settleFork_23 : decode cX0_settleFork 23 = .ok (.iload_n 1, 1) := by decide +kernel
theorem dX0_settleFork_24 : decode cX0_settleFork 24 = .ok (.invokevirtual 265, 3) := by decide +kernel
theorem dX0_settleFork_27 : decode cX0_settleFork 27 = .ok (.return_, 1) := by decide +kernel
set_option maxRecDepth 20000 in
theorem ggX0_settleGreater_X0_at : GoodIn wsX0_settleGreater wsX0_at := goodIn_r _ [10] (by decide +kernel) (by decide +kernel)
set_option maxRecDepth 20000 in
theorem gX0_settleGreater_X0_at : GoodIn wsX0_settleGreater (va_wsS RX0 100 yX0_at wsX0_at) := goodIn_app (goodIn_of _ (by decide +kernel)) ggX0_settleGreater_X0_at
set_option maxRecDepth 20000 in
theorem ggX0_settleGreater_X0_put : GoodIn wsX0_settleGreater wsX0_put := goodIn_r _ [13] (by decide +kernel) (by decide +kernel)
set_option maxRecDepth 20000 in
theorem gX0_settleGreater_X0_put : GoodIn wsX0_settleGreater (va_wsS RX0 72 yX0_put wsX0_put) := goodIn_app (goodIn_of _ (by decide +kernel)) ggX0_settleGreater_X0_put
theorem dX0_settleGreater_0 : decode cX0_settleGreater 0 = .ok (.aload_n 1, 1) := by decide +kernel
theorem dX0_settleGreater_1 : decode cX0_settleGreater 1 = .ok (.iload_n 2, 1) := by decide +kernel
theorem dX0_settleGreater_2 : decode cX0_settleGreater 2 = .ok (.aload_n 1, 1) := by decide +kernel
theorem dX0_settleGreater_3 : decode cX0_settleGreater 3 = .ok (.aload_n 0, 1) := by decide +kernel
theorem dX0_settleGreater_4 : decode cX0_settleGreater 4 = .ok (.getfield 16, 3) := by decide +kernel
theorem dX0_settleGreater_7 : decode cX0_settleGreater 7 = .ok (.iload_n 2, 1) := by decide +kernel
theorem dX0_settleGreater_8 : decode cX0_settleGreater 8 = .ok (.invokestatic 100, 3) := by decide +kernel
theorem dX0_settleGreater_11 : decode cX0_settleGreater 11 = .ok (.invokestatic 100, 3) := by decide +kernel
theorem dX0_settleGreater_14 : decode cX0_settleGreater 14 = .ok (.aload_n 1, 1) := by decide +kernel
theorem dX0_settleGreater_15 : decode cX0_settleGreater 15 = .ok (.aload_n 0, 1) := by decide +kernel
theorem dX0_settleGreater_16 : decode cX0_settleGreater 16 = .ok (.getfield 19, 3) := by decide +kernel
theorem dX0_settleGreater_19 : decode cX0_settleGreater 19 = .ok (.iload_n 2, 1) := by decide +kernel
theorem dX0_settleGreater_20 : decode cX0_settleGreater 20 = .ok (.invokestatic 100, 3) := by decide +kernel
theorem dX0_settleGreater_23 : decode cX0_settleGreater 23 = .ok (.invokestatic 100, 3) := by decide +kernel
theorem dX0_settleGreater_26 : decode cX0_settleGreater 26 = .ok (.invokestatic 269, 3) := by decide +kernel
theorem dX0_settleGreater_29 : decode cX0_settleGreater 29 = .ok (.invokestatic 72, 3) := by decide +kernel
theorem dX0_settleGreater_32 : decode cX0_settleGreater 32 = .ok (.return_, 1) := by decide +kernel
set_option maxRecDepth 20000 in
theorem ggX0_settleForksAfter_X0_holdsExam : GoodIn wsX0_settleForksAfter wsX0_holdsExam := goodIn_r _ [6, 7, 8, 9, 5, 10, 34, 35, 36, 37, 38, 39, 40, 41, 42, 43, 44, 45, 46, 47, 48, 49, 50, 51] (by decide +kernel) (by decide +kernel)
set_option maxRecDepth 20000 in
theorem gX0_settleForksAfter_X0_holdsExam : GoodIn wsX0_settleForksAfter (wsV RX0 135 RX0 yX0_holdsExam wsX0_holdsExam) := goodIn_app (goodIn_of _ (by decide +kernel)) ggX0_settleForksAfter_X0_holdsExam
set_option maxRecDepth 20000 in
theorem ggX0_settleForksAfter_X0_settleFork : GoodIn wsX0_settleForksAfter wsX0_settleFork := goodIn_r _ [14, 15, 16, 17, 18, 19, 20, 5, 21, 22, 23, 24, 25, 26, 27, 28, 29, 30, 31, 32, 33, 34, 35, 36, 37, 38, 39, 40, 41, 42, 43, 44, 45, 46, 47, 48, 49, 50, 51] (by decide +kernel) (by decide +kernel)
set_option maxRecDepth 20000 in
theorem gX0_settleForksAfter_X0_settleFork : GoodIn wsX0_settleForksAfter (wsV RX0 94 RX0 yX0_settleFork wsX0_settleFork) := goodIn_app (goodIn_of _ (by decide +kernel)) ggX0_settleForksAfter_X0_settleFork
theorem dX0_settleForksAfter_0 : decode cX0_settleForksAfter 0 = .ok (.iload_n 1, 1) := by decide +kernel
theorem dX0_settleForksAfter_1 : decode cX0_settleForksAfter 1 = .ok (.iconst 1, 1) := by decide +kernel
theorem dX0_settleForksAfter_2 : decode cX0_settleForksAfter 2 = .ok (.iadd, 1) := by decide +kernel
theorem dX0_settleForksAfter_3 : decode cX0_settleForksAfter 3 = .ok (.istore_n 2, 1) := by decide +kernel
theorem dX0_settleForksAfter_4 : decode cX0_settleForksAfter 4 = .ok (.iload_n 2, 1) := by decide +kernel
theorem dX0_settleForksAfter_5 : decode cX0_settleForksAfter 5 = .ok (.aload_n 0, 1) := by decide +kernel
theorem dX0_settleForksAfter_6 : decode cX0_settleForksAfter 6 = .ok (.getfield 60, 3) := by decide +kernel
theorem dX0_settleForksAfter_9 : decode cX0_settleForksAfter 9 = .ok (.if_icmp .ge 22, 3) := by decide +kernel
theorem dX0_settleForksAfter_12 : decode cX0_settleForksAfter 12 = .ok (.aload_n 0, 1) := by decide +kernel
theorem dX0_settleForksAfter_13 : decode cX0_settleForksAfter 13 = .ok (.iload_n 2, 1) := by decide +kernel
theorem dX0_settleForksAfter_14 : decode cX0_settleForksAfter 14 = .ok (.invokevirtual 135, 3) := by decide +kernel
theorem dX0_settleForksAfter_17 : decode cX0_settleForksAfter 17 = .ok (.ifCond .ne 8, 3) := by decide +kernel
theorem dX0_settleForksAfter_20 : decode cX0_settleForksAfter 20 = .ok (.aload_n 0, 1) := by decide +kernel
theorem dX0_settleForksAfter_21 : decode cX0_settleForksAfter 21 = .ok (.iload_n 2, 1) := by decide +kernel
theorem dX0_settleForksAfter_22 : decode cX0_settleForksAfter 22 = .ok (.invokevirtual 94, 3) := by decide +kernel
theorem dX0_settleForksAfter_25 : decode cX0_settleForksAfter 25 = .ok (.iinc 2 1, 3) := by decide +kernel
theorem dX0_settleForksAfter_28 : decode cX0_settleForksAfter 28 = .ok (.goto (-24), 3) := by decide +kernel
theorem dX0_settleForksAfter_31 : decode cX0_settleForksAfter 31 = .ok (.return_, 1) := by decide +kernel
set_option maxRecDepth 20000 in
theorem ggX0_pathFrom_X0_at : GoodIn wsX0_pathFrom wsX0_at := goodIn_r _ [6] (by decide +kernel) (by decide +kernel)
set_option maxRecDepth 20000 in
theorem gX0_pathFrom_X0_at : GoodIn wsX0_pathFrom (va_wsS RX0 100 yX0_at wsX0_at) := goodIn_app (goodIn_of _ (by decide +kernel)) ggX0_pathFrom_X0_at
theorem dX0_pathFrom_0 : decode cX0_pathFrom 0 = .ok (.iload_n 2, 1) := by decide +kernel
theorem dX0_pathFrom_1 : decode cX0_pathFrom 1 = .ok (.ifCond .eq 14, 3) := by decide +kernel
theorem dX0_pathFrom_4 : decode cX0_pathFrom 4 = .ok (.aload_n 0, 1) := by decide +kernel
theorem dX0_pathFrom_5 : decode cX0_pathFrom 5 = .ok (.getfield 19, 3) := by decide +kernel
theorem dX0_pathFrom_8 : decode cX0_pathFrom 8 = .ok (.iload_n 1, 1) := by decide +kernel
theorem dX0_pathFrom_9 : decode cX0_pathFrom 9 = .ok (.invokestatic 100, 3) := by decide +kernel
theorem dX0_pathFrom_12 : decode cX0_pathFrom 12 = .ok (.goto 11, 3) := by decide +kernel
theorem dX0_pathFrom_15 : decode cX0_pathFrom 15 = .ok (.aload_n 0, 1) := by decide +kernel
theorem dX0_pathFrom_16 : decode cX0_pathFrom 16 = .ok (.getfield 16, 3) := by decide +kernel
theorem dX0_pathFrom_19 : decode cX0_pathFrom 19 = .ok (.iload_n 1, 1) := by decide +kernel
theorem dX0_pathFrom_20 : decode cX0_pathFrom 20 = .ok (.invokestatic 100, 3) := by decide +kernel
theorem dX0_pathFrom_23 : decode cX0_pathFrom 23 = .ok (.ireturn, 1) := by decide +kernel
set_option maxRecDepth 20000 in
theorem ggX0_riskOfPath_X0_pathFrom : GoodIn wsX0_riskOfPath wsX0_pathFrom := goodIn_r _ [12, 13, 14, 15, 16, 11, 17, 18, 19, 20, 21, 22, 23, 24, 25, 26, 27, 28, 29, 30, 31, 32, 33, 34, 35] (by decide +kernel) (by decide +kernel)
set_option maxRecDepth 20000 in
theorem gX0_riskOfPath_X0_pathFrom : GoodIn wsX0_riskOfPath (wsV RX0 163 RX0 yX0_pathFrom wsX0_pathFrom) := goodIn_app (goodIn_of _ (by decide +kernel)) ggX0_riskOfPath_X0_pathFrom
set_option maxRecDepth 20000 in
theorem ggX0_riskOfPath_X0_at : GoodIn wsX0_riskOfPath wsX0_at := goodIn_r _ [17] (by decide +kernel) (by decide +kernel)
set_option maxRecDepth 20000 in
theorem gX0_riskOfPath_X0_at : GoodIn wsX0_riskOfPath (va_wsS RX0 100 yX0_at wsX0_at) := goodIn_app (goodIn_of _ (by decide +kernel)) ggX0_riskOfPath_X0_at
theorem dX0_riskOfPath_0 : decode cX0_riskOfPath 0 = .ok (.aload_n 0, 1) := by decide +kernel
theorem dX0_riskOfPath_1 : decode cX0_riskOfPath 1 = .ok (.getfield 28, 3) := by decide +kernel
theorem dX0_riskOfPath_4 : decode cX0_riskOfPath 4 = .ok (.aload_n 0, 1) := by decide +kernel
theorem dX0_riskOfPath_5 : decode cX0_riskOfPath 5 = .ok (.iload_n 1, 1) := by decide +kernel
theorem dX0_riskOfPath_6 : decode cX0_riskOfPath 6 = .ok (.iload_n 2, 1) := by decide +kernel
theorem dX0_riskOfPath_7 : decode cX0_riskOfPath 7 = .ok (.invokevirtual 163, 3) := by decide +kernel
theorem dX0_riskOfPath_10 : decode cX0_riskOfPath 10 = .ok (.invokestatic 100, 3) := by decide +kernel
theorem dX0_riskOfPath_13 : decode cX0_riskOfPath 13 = .ok (.istore_n 3, 1) := by decide +kernel
theorem dX0_riskOfPath_14 : decode cX0_riskOfPath 14 = .ok (.aload_n 0, 1) := by decide +kernel
theorem dX0_riskOfPath_15 : decode cX0_riskOfPath 15 = .ok (.getfield 31, 3) := by decide +kernel
theorem dX0_riskOfPath_18 : decode cX0_riskOfPath 18 = .ok (.aload_n 0, 1) := by decide +kernel
theorem dX0_riskOfPath_19 : decode cX0_riskOfPath 19 = .ok (.iload_n 1, 1) := by decide +kernel
theorem dX0_riskOfPath_20 : decode cX0_riskOfPath 20 = .ok (.iload_n 2, 1) := by decide +kernel
theorem dX0_riskOfPath_21 : decode cX0_riskOfPath 21 = .ok (.ifCond .ne 7, 3) := by decide +kernel
theorem dX0_riskOfPath_24 : decode cX0_riskOfPath 24 = .ok (.iconst 1, 1) := by decide +kernel
theorem dX0_riskOfPath_25 : decode cX0_riskOfPath 25 = .ok (.goto 4, 3) := by decide +kernel
theorem dX0_riskOfPath_28 : decode cX0_riskOfPath 28 = .ok (.iconst 0, 1) := by decide +kernel
theorem dX0_riskOfPath_29 : decode cX0_riskOfPath 29 = .ok (.invokevirtual 163, 3) := by decide +kernel
theorem dX0_riskOfPath_32 : decode cX0_riskOfPath 32 = .ok (.invokestatic 100, 3) := by decide +kernel
theorem dX0_riskOfPath_35 : decode cX0_riskOfPath 35 = .ok (.istore 4, 2) := by decide +kernel
theorem dX0_riskOfPath_37 : decode cX0_riskOfPath 37 = .ok (.iconst 0, 1) := by decide +kernel
theorem dX0_riskOfPath_38 : decode cX0_riskOfPath 38 = .ok (.iload 4, 2) := by decide +kernel
theorem dX0_riskOfPath_40 : decode cX0_riskOfPath 40 = .ok (.iload_n 3, 1) := by decide +kernel
theorem dX0_riskOfPath_41 : decode cX0_riskOfPath 41 = .ok (.isub, 1) := by decide +kernel
theorem dX0_riskOfPath_42 : decode cX0_riskOfPath 42 = .ok (.invokestatic 269, 3) := by decide +kernel
theorem dX0_riskOfPath_45 : decode cX0_riskOfPath 45 = .ok (.aload_n 0, 1) := by decide +kernel
theorem dX0_riskOfPath_46 : decode cX0_riskOfPath 46 = .ok (.getfield 22, 3) := by decide +kernel
theorem dX0_riskOfPath_49 : decode cX0_riskOfPath 49 = .ok (.iload_n 1, 1) := by decide +kernel
theorem dX0_riskOfPath_50 : decode cX0_riskOfPath 50 = .ok (.invokestatic 100, 3) := by decide +kernel
theorem dX0_riskOfPath_53 : decode cX0_riskOfPath 53 = .ok (.imul, 1) := by decide +kernel
theorem dX0_riskOfPath_54 : decode cX0_riskOfPath 54 = .ok (.ireturn, 1) := by decide +kernel
set_option maxRecDepth 20000 in
theorem ggX0_plansRight_X0_riskOfPath : GoodIn wsX0_plansRight wsX0_riskOfPath := goodIn_r _ [5, 6, 7, 8, 9, 10, 11, 12, 13, 14, 15, 4, 16, 17, 18, 19, 20, 21, 22, 23, 24, 25, 26, 27, 28, 29, 30, 31, 32, 33, 34, 35, 36, 37, 38, 39] (by decide +kernel) (by decide +kernel)
set_option maxRecDepth 20000 in
theorem gX0_plansRight_X0_riskOfPath : GoodIn wsX0_plansRight (wsV RX0 159 RX0 yX0_riskOfPath wsX0_riskOfPath) := goodIn_app (goodIn_of _ (by decide +kernel)) ggX0_plansRight_X0_riskOfPath
theorem dX0_plansRight_0 : decode cX0_plansRight 0 = .ok (.aload_n 0, 1) := by decide +kernel
theorem dX0_plansRight_1 : decode cX0_plansRight 1 = .ok (.iload_n 1, 1) := by decide +kernel
theorem dX0_plansRight_2 : decode cX0_plansRight 2 = .ok (.iconst 1, 1) := by decide +kernel
theorem dX0_plansRight_3 : decode cX0_plansRight 3 = .ok (.invokevirtual 159, 3) := by decide +kernel
theorem dX0_plansRight_6 : decode cX0_plansRight 6 = .ok (.aload_n 0, 1) := by decide +kernel
theorem dX0_plansRight_7 : decode cX0_plansRight 7 = .ok (.iload_n 1, 1) := by decide +kernel
theorem dX0_plansRight_8 : decode cX0_plansRight 8 = .ok (.iconst 0, 1) := by decide +kernel
theorem dX0_plansRight_9 : decode cX0_plansRight 9 = .ok (.invokevirtual 159, 3) := by decide +kernel
theorem dX0_plansRight_12 : decode cX0_plansRight 12 = .ok (.if_icmp .ge 7, 3) := by decide +kernel
theorem dX0_plansRight_15 : decode cX0_plansRight 15 = .ok (.iconst 1, 1) := by decide +kernel
theorem dX0_plansRight_16 : decode cX0_plansRight 16 = .ok (.goto 4, 3) := by decide +kernel
theorem dX0_plansRight_19 : decode cX0_plansRight 19 = .ok (.iconst 0, 1) := by decide +kernel
theorem dX0_plansRight_20 : decode cX0_plansRight 20 = .ok (.ireturn, 1) := by decide +kernel
set_option maxRecDepth 20000 in
theorem ggX0_smallerRisk_X0_riskOfPath : GoodIn wsX0_smallerRisk wsX0_riskOfPath := goodIn_r _ [9, 10, 11, 12, 13, 3, 14, 15, 16, 17, 18, 8, 19, 20, 21, 22, 23, 24, 25, 26, 27, 28, 29, 30, 31, 32, 33, 34, 35, 36, 37, 38, 39, 40, 41, 42] (by decide +kernel) (by decide +kernel)
set_option maxRecDepth 20000 in
theorem gX0_smallerRisk_X0_riskOfPath : GoodIn wsX0_smallerRisk (wsV RX0 159 RX0 yX0_riskOfPath wsX0_riskOfPath) := goodIn_app (goodIn_of _ (by decide +kernel)) ggX0_smallerRisk_X0_riskOfPath
theorem dX0_smallerRisk_0 : decode cX0_smallerRisk 0 = .ok (.aload_n 0, 1) := by decide +kernel
theorem dX0_smallerRisk_1 : decode cX0_smallerRisk 1 = .ok (.iload_n 1, 1) := by decide +kernel
theorem dX0_smallerRisk_2 : decode cX0_smallerRisk 2 = .ok (.iconst 0, 1) := by decide +kernel
theorem dX0_smallerRisk_3 : decode cX0_smallerRisk 3 = .ok (.invokevirtual 159, 3) := by decide +kernel
theorem dX0_smallerRisk_6 : decode cX0_smallerRisk 6 = .ok (.aload_n 0, 1) := by decide +kernel
theorem dX0_smallerRisk_7 : decode cX0_smallerRisk 7 = .ok (.iload_n 1, 1) := by decide +kernel
theorem dX0_smallerRisk_8 : decode cX0_smallerRisk 8 = .ok (.iconst 1, 1) := by decide +kernel
theorem dX0_smallerRisk_9 : decode cX0_smallerRisk 9 = .ok (.invokevirtual 159, 3) := by decide +kernel
theorem dX0_smallerRisk_12 : decode cX0_smallerRisk 12 = .ok (.invokestatic 274, 3) := by decide +kernel
theorem dX0_smallerRisk_15 : decode cX0_smallerRisk 15 = .ok (.ireturn, 1) := by decide +kernel
set_option maxRecDepth 20000 in
theorem ggX0_walk_X0_at : GoodIn wsX0_walk wsX0_at := goodIn_r _ [7] (by decide +kernel) (by decide +kernel)
set_option maxRecDepth 20000 in
theorem gX0_walk_X0_at : GoodIn wsX0_walk (va_wsS RX0 100 yX0_at wsX0_at) := goodIn_app (goodIn_of _ (by decide +kernel)) ggX0_walk_X0_at
set_option maxRecDepth 20000 in
theorem ggX0_walk_X0_put : GoodIn wsX0_walk wsX0_put := goodIn_r _ [10] (by decide +kernel) (by decide +kernel)
set_option maxRecDepth 20000 in
theorem gX0_walk_X0_put : GoodIn wsX0_walk (va_wsS RX0 72 yX0_put wsX0_put) := goodIn_app (goodIn_of _ (by decide +kernel)) ggX0_walk_X0_put
set_option maxRecDepth 20000 in
theorem ggX0_walk_X0_pathFrom : GoodIn wsX0_walk wsX0_pathFrom := goodIn_r _ [14, 15, 16, 4, 5, 6, 7, 17, 18, 19, 20, 21, 22, 23, 24, 25, 26, 27, 28, 29, 30, 31, 32, 33, 34] (by decide +kernel) (by decide +kernel)
set_option maxRecDepth 20000 in
theorem gX0_walk_X0_pathFrom : GoodIn wsX0_walk (wsV RX0 163 RX0 yX0_pathFrom wsX0_pathFrom) := goodIn_app (goodIn_of _ (by decide +kernel)) ggX0_walk_X0_pathFrom
theorem dX0_walk_0 : decode cX0_walk 0 = .ok (.aload_n 0, 1) := by decide +kernel
theorem dX0_walk_1 : decode cX0_walk 1 = .ok (.getfield 41, 3) := by decide +kernel
theorem dX0_walk_4 : decode cX0_walk 4 = .ok (.iload_n 1, 1) := by decide +kernel
theorem dX0_walk_5 : decode cX0_walk 5 = .ok (.invokestatic 100, 3) := by decide +kernel
theorem dX0_walk_8 : decode cX0_walk 8 = .ok (.istore_n 3, 1) := by decide +kernel
theorem dX0_walk_9 : decode cX0_walk 9 = .ok (.aload_n 0, 1) := by decide +kernel
theorem dX0_walk_10 : decode cX0_walk 10 = .ok (.getfield 44, 3) := by decide +kernel
theorem dX0_walk_13 : decode cX0_walk 13 = .ok (.iload_n 1, 1) := by decide +kernel
theorem dX0_walk_14 : decode cX0_walk 14 = .ok (.invokestatic 100, 3) := by decide +kernel
theorem dX0_walk_17 : decode cX0_walk 17 = .ok (.istore 4, 2) := by decide +kernel
theorem dX0_walk_19 : decode cX0_walk 19 = .ok (.aload_n 0, 1) := by decide +kernel
theorem dX0_walk_20 : decode cX0_walk 20 = .ok (.getfield 47, 3) := by decide +kernel
theorem dX0_walk_23 : decode cX0_walk 23 = .ok (.iload_n 1, 1) := by decide +kernel
theorem dX0_walk_24 : decode cX0_walk 24 = .ok (.bipush 40, 2) := by decide +kernel
theorem dX0_walk_26 : decode cX0_walk 26 = .ok (.imul, 1) := by decide +kernel
theorem dX0_walk_27 : decode cX0_walk 27 = .ok (.iload 4, 2) := by decide +kernel
theorem dX0_walk_29 : decode cX0_walk 29 = .ok (.iadd, 1) := by decide +kernel
theorem dX0_walk_30 : decode cX0_walk 30 = .ok (.iload_n 3, 1) := by decide +kernel
theorem dX0_walk_31 : decode cX0_walk 31 = .ok (.invokestatic 72, 3) := by decide +kernel
theorem dX0_walk_34 : decode cX0_walk 34 = .ok (.aload_n 0, 1) := by decide +kernel
theorem dX0_walk_35 : decode cX0_walk 35 = .ok (.getfield 44, 3) := by decide +kernel
theorem dX0_walk_38 : decode cX0_walk 38 = .ok (.iload_n 1, 1) := by decide +kernel
theorem dX0_walk_39 : decode cX0_walk 39 = .ok (.iload 4, 2) := by decide +kernel
theorem dX0_walk_41 : decode cX0_walk 41 = .ok (.iconst 1, 1) := by decide +kernel
theorem dX0_walk_42 : decode cX0_walk 42 = .ok (.iadd, 1) := by decide +kernel
theorem dX0_walk_43 : decode cX0_walk 43 = .ok (.invokestatic 72, 3) := by decide +kernel
theorem dX0_walk_46 : decode cX0_walk 46 = .ok (.aload_n 0, 1) := by decide +kernel
theorem dX0_walk_47 : decode cX0_walk 47 = .ok (.getfield 41, 3) := by decide +kernel
theorem dX0_walk_50 : decode cX0_walk 50 = .ok (.iload_n 1, 1) := by decide +kernel
theorem dX0_walk_51 : decode cX0_walk 51 = .ok (.aload_n 0, 1) := by decide +kernel
theorem dX0_walk_52 : decode cX0_walk 52 = .ok (.iload_n 3, 1) := by decide +kernel
theorem dX0_walk_53 : decode cX0_walk 53 = .ok (.iload_n 2, 1) := by decide +kernel
theorem dX0_walk_54 : decode cX0_walk 54 = .ok (.invokevirtual 163, 3) := by decide +kernel
theorem dX0_walk_57 : decode cX0_walk 57 = .ok (.invokestatic 72, 3) := by decide +kernel
theorem dX0_walk_60 : decode cX0_walk 60 = .ok (.return_, 1) := by decide +kernel
set_option maxRecDepth 20000 in
theorem ggX0_passedFork_X0_at : GoodIn wsX0_passedFork wsX0_at := goodIn_r _ [5] (by decide +kernel) (by decide +kernel)
set_option maxRecDepth 20000 in
theorem gX0_passedFork_X0_at : GoodIn wsX0_passedFork (va_wsS RX0 100 yX0_at wsX0_at) := goodIn_app (goodIn_of _ (by decide +kernel)) ggX0_passedFork_X0_at
theorem dX0_passedFork_0 : decode cX0_passedFork 0 = .ok (.aload_n 0, 1) := by decide +kernel
theorem dX0_passedFork_1 : decode cX0_passedFork 1 = .ok (.getfield 47, 3) := by decide +kernel
theorem dX0_passedFork_4 : decode cX0_passedFork 4 = .ok (.iload_n 1, 1) := by decide +kernel
theorem dX0_passedFork_5 : decode cX0_passedFork 5 = .ok (.bipush 40, 2) := by decide +kernel
theorem dX0_passedFork_7 : decode cX0_passedFork 7 = .ok (.imul, 1) := by decide +kernel
theorem dX0_passedFork_8 : decode cX0_passedFork 8 = .ok (.iload_n 2, 1) := by decide +kernel
theorem dX0_passedFork_9 : decode cX0_passedFork 9 = .ok (.iadd, 1) := by decide +kernel
theorem dX0_passedFork_10 : decode cX0_passedFork 10 = .ok (.invokestatic 100, 3) := by decide +kernel
theorem dX0_passedFork_13 : decode cX0_passedFork 13 = .ok (.ireturn, 1) := by decide +kernel
set_option maxRecDepth 20000 in
theorem ggX0_regretOfStep_X0_passedFork : GoodIn wsX0_regretOfStep wsX0_passedFork := goodIn_r _ [13, 14, 15, 16, 12, 17, 18, 19, 20, 21, 22, 23, 24, 25, 26, 27, 28, 29, 30, 31, 32, 33, 34, 35] (by decide +kernel) (by decide +kernel)
set_option maxRecDepth 20000 in
theorem gX0_regretOfStep_X0_passedFork : GoodIn wsX0_regretOfStep (wsV RX0 146 RX0 yX0_passedFork wsX0_passedFork) := goodIn_app (goodIn_of _ (by decide +kernel)) ggX0_regretOfStep_X0_passedFork
set_option maxRecDepth 20000 in
theorem ggX0_regretOfStep_X0_at : GoodIn wsX0_regretOfStep wsX0_at := goodIn_r _ [17] (by decide +kernel) (by decide +kernel)
set_option maxRecDepth 20000 in
theorem gX0_regretOfStep_X0_at : GoodIn wsX0_regretOfStep (va_wsS RX0 100 yX0_at wsX0_at) := goodIn_app (goodIn_of _ (by decide +kernel)) ggX0_regretOfStep_X0_at
theorem dX0_regretOfStep_0 : decode cX0_regretOfStep 0 = .ok (.aload_n 0, 1) := by decide +kernel
theorem dX0_regretOfStep_1 : decode cX0_regretOfStep 1 = .ok (.iload_n 1, 1) := by decide +kernel
theorem dX0_regretOfStep_2 : decode cX0_regretOfStep 2 = .ok (.iload_n 2, 1) := by decide +kernel
theorem dX0_regretOfStep_3 : decode cX0_regretOfStep 3 = .ok (.invokevirtual 146, 3) := by decide +kernel
theorem dX0_regretOfStep_6 : decode cX0_regretOfStep 6 = .ok (.istore_n 3, 1) := by decide +kernel
theorem dX0_regretOfStep_7 : decode cX0_regretOfStep 7 = .ok (.aload_n 0, 1) := by decide +kernel
theorem dX0_regretOfStep_8 : decode cX0_regretOfStep 8 = .ok (.getfield 25, 3) := by decide +kernel
theorem dX0_regretOfStep_11 : decode cX0_regretOfStep 11 = .ok (.aload_n 0, 1) := by decide +kernel
theorem dX0_regretOfStep_12 : decode cX0_regretOfStep 12 = .ok (.getfield 41, 3) := by decide +kernel
theorem dX0_regretOfStep_15 : decode cX0_regretOfStep 15 = .ok (.iload_n 1, 1) := by decide +kernel
theorem dX0_regretOfStep_16 : decode cX0_regretOfStep 16 = .ok (.invokestatic 100, 3) := by decide +kernel
theorem dX0_regretOfStep_19 : decode cX0_regretOfStep 19 = .ok (.invokestatic 100, 3) := by decide +kernel
theorem dX0_regretOfStep_22 : decode cX0_regretOfStep 22 = .ok (.istore 4, 2) := by decide +kernel
theorem dX0_regretOfStep_24 : decode cX0_regretOfStep 24 = .ok (.iconst 0, 1) := by decide +kernel
theorem dX0_regretOfStep_25 : decode cX0_regretOfStep 25 = .ok (.aload_n 0, 1) := by decide +kernel
theorem dX0_regretOfStep_26 : decode cX0_regretOfStep 26 = .ok (.getfield 34, 3) := by decide +kernel
theorem dX0_regretOfStep_29 : decode cX0_regretOfStep 29 = .ok (.iload_n 3, 1) := by decide +kernel
theorem dX0_regretOfStep_30 : decode cX0_regretOfStep 30 = .ok (.invokestatic 100, 3) := by decide +kernel
theorem dX0_regretOfStep_33 : decode cX0_regretOfStep 33 = .ok (.iload 4, 2) := by decide +kernel
theorem dX0_regretOfStep_35 : decode cX0_regretOfStep 35 = .ok (.isub, 1) := by decide +kernel
theorem dX0_regretOfStep_36 : decode cX0_regretOfStep 36 = .ok (.invokestatic 269, 3) := by decide +kernel
theorem dX0_regretOfStep_39 : decode cX0_regretOfStep 39 = .ok (.aload_n 0, 1) := by decide +kernel
theorem dX0_regretOfStep_40 : decode cX0_regretOfStep 40 = .ok (.getfield 22, 3) := by decide +kernel
theorem dX0_regretOfStep_43 : decode cX0_regretOfStep 43 = .ok (.iload_n 3, 1) := by decide +kernel
theorem dX0_regretOfStep_44 : decode cX0_regretOfStep 44 = .ok (.invokestatic 100, 3) := by decide +kernel
theorem dX0_regretOfStep_47 : decode cX0_regretOfStep 47 = .ok (.imul, 1) := by decide +kernel
theorem dX0_regretOfStep_48 : decode cX0_regretOfStep 48 = .ok (.ireturn, 1) := by decide +kernel
set_option maxRecDepth 20000 in
theorem ggX0_regretOfAll_X0_at : GoodIn wsX0_regretOfAll wsX0_at := goodIn_r _ [5] (by decide +kernel) (by decide +kernel)
set_option maxRecDepth 20000 in
theorem gX0_regretOfAll_X0_at : GoodIn wsX0_regretOfAll (va_wsS RX0 100 yX0_at wsX0_at) := goodIn_app (goodIn_of _ (by decide +kernel)) ggX0_regretOfAll_X0_at
set_option maxRecDepth 20000 in
theorem ggX0_regretOfAll_X0_regretOfStep : GoodIn wsX0_regretOfAll wsX0_regretOfStep := goodIn_r _ [9, 10, 11, 12, 13, 14, 15, 16, 17, 18, 19, 20, 4, 21, 22, 2, 3, 5, 23, 24, 25, 26, 27, 28, 29, 30, 31, 32, 33, 34, 35, 36, 37, 38, 39, 40] (by decide +kernel) (by decide +kernel)
set_option maxRecDepth 20000 in
theorem gX0_regretOfAll_X0_regretOfStep : GoodIn wsX0_regretOfAll (wsV RX0 176 RX0 yX0_regretOfStep wsX0_regretOfStep) := goodIn_app (goodIn_of _ (by decide +kernel)) ggX0_regretOfAll_X0_regretOfStep
theorem dX0_regretOfAll_0 : decode cX0_regretOfAll 0 = .ok (.iconst 0, 1) := by decide +kernel
theorem dX0_regretOfAll_1 : decode cX0_regretOfAll 1 = .ok (.istore_n 2, 1) := by decide +kernel
theorem dX0_regretOfAll_2 : decode cX0_regretOfAll 2 = .ok (.aload_n 0, 1) := by decide +kernel
theorem dX0_regretOfAll_3 : decode cX0_regretOfAll 3 = .ok (.getfield 44, 3) := by decide +kernel
theorem dX0_regretOfAll_6 : decode cX0_regretOfAll 6 = .ok (.iload_n 1, 1) := by decide +kernel
theorem dX0_regretOfAll_7 : decode cX0_regretOfAll 7 = .ok (.invokestatic 100, 3) := by decide +kernel
theorem dX0_regretOfAll_10 : decode cX0_regretOfAll 10 = .ok (.istore_n 3, 1) := by decide +kernel
theorem dX0_regretOfAll_11 : decode cX0_regretOfAll 11 = .ok (.iconst 0, 1) := by decide +kernel
theorem dX0_regretOfAll_12 : decode cX0_regretOfAll 12 = .ok (.istore 4, 2) := by decide +kernel
theorem dX0_regretOfAll_14 : decode cX0_regretOfAll 14 = .ok (.iload 4, 2) := by decide +kernel
theorem dX0_regretOfAll_16 : decode cX0_regretOfAll 16 = .ok (.iload_n 3, 1) := by decide +kernel
theorem dX0_regretOfAll_17 : decode cX0_regretOfAll 17 = .ok (.if_icmp .ge 19, 3) := by decide +kernel
theorem dX0_regretOfAll_20 : decode cX0_regretOfAll 20 = .ok (.iload_n 2, 1) := by decide +kernel
theorem dX0_regretOfAll_21 : decode cX0_regretOfAll 21 = .ok (.aload_n 0, 1) := by decide +kernel
theorem dX0_regretOfAll_22 : decode cX0_regretOfAll 22 = .ok (.iload_n 1, 1) := by decide +kernel
theorem dX0_regretOfAll_23 : decode cX0_regretOfAll 23 = .ok (.iload 4, 2) := by decide +kernel
theorem dX0_regretOfAll_25 : decode cX0_regretOfAll 25 = .ok (.invokevirtual 176, 3) := by decide +kernel
theorem dX0_regretOfAll_28 : decode cX0_regretOfAll 28 = .ok (.iadd, 1) := by decide +kernel
theorem dX0_regretOfAll_29 : decode cX0_regretOfAll 29 = .ok (.istore_n 2, 1) := by decide +kernel
theorem dX0_regretOfAll_30 : decode cX0_regretOfAll 30 = .ok (.iinc 4 1, 3) := by decide +kernel
theorem dX0_regretOfAll_33 : decode cX0_regretOfAll 33 = .ok (.goto (-19), 3) := by decide +kernel
theorem dX0_regretOfAll_36 : decode cX0_regretOfAll 36 = .ok (.iload_n 2, 1) := by decide +kernel
theorem dX0_regretOfAll_37 : decode cX0_regretOfAll 37 = .ok (.ireturn, 1) := by decide +kernel
theorem dX0_at_0 : decode cX0_at 0 = .ok (.iload_n 1, 1) := by decide +kernel
theorem dX0_at_1 : decode cX0_at 1 = .ok (.ifCond .lt 15, 3) := by decide +kernel
theorem dX0_at_4 : decode cX0_at 4 = .ok (.iload_n 1, 1) := by decide +kernel
theorem dX0_at_5 : decode cX0_at 5 = .ok (.aload_n 0, 1) := by decide +kernel
theorem dX0_at_6 : decode cX0_at 6 = .ok (.arraylength, 1) := by decide +kernel
theorem dX0_at_7 : decode cX0_at 7 = .ok (.if_icmp .ge 9, 3) := by decide +kernel
theorem dX0_at_10 : decode cX0_at 10 = .ok (.aload_n 0, 1) := by decide +kernel
theorem dX0_at_11 : decode cX0_at 11 = .ok (.iload_n 1, 1) := by decide +kernel
theorem dX0_at_12 : decode cX0_at 12 = .ok (.iaload, 1) := by decide +kernel
theorem dX0_at_13 : decode cX0_at 13 = .ok (.goto 4, 3) := by decide +kernel
theorem dX0_at_16 : decode cX0_at 16 = .ok (.iconst 0, 1) := by decide +kernel
theorem dX0_at_17 : decode cX0_at 17 = .ok (.ireturn, 1) := by decide +kernel
theorem dX0_put_0 : decode cX0_put 0 = .ok (.iload_n 1, 1) := by decide +kernel
theorem dX0_put_1 : decode cX0_put 1 = .ok (.ifCond .lt 13, 3) := by decide +kernel
theorem dX0_put_4 : decode cX0_put 4 = .ok (.iload_n 1, 1) := by decide +kernel
theorem dX0_put_5 : decode cX0_put 5 = .ok (.aload_n 0, 1) := by decide +kernel
theorem dX0_put_6 : decode cX0_put 6 = .ok (.arraylength, 1) := by decide +kernel
theorem dX0_put_7 : decode cX0_put 7 = .ok (.if_icmp .ge 7, 3) := by decide +kernel
theorem dX0_put_10 : decode cX0_put 10 = .ok (.aload_n 0, 1) := by decide +kernel
theorem dX0_put_11 : decode cX0_put 11 = .ok (.iload_n 1, 1) := by decide +kernel
theorem dX0_put_12 : decode cX0_put 12 = .ok (.iload_n 2, 1) := by decide +kernel
theorem dX0_put_13 : decode cX0_put 13 = .ok (.iastore, 1) := by decide +kernel
theorem dX0_put_14 : decode cX0_put 14 = .ok (.return_, 1) := by decide +kernel
theorem dX0_bitsAt_0 : decode cX0_bitsAt 0 = .ok (.iload_n 1, 1) := by decide +kernel
theorem dX0_bitsAt_1 : decode cX0_bitsAt 1 = .ok (.ifCond .lt 15, 3) := by decide +kernel
theorem dX0_bitsAt_4 : decode cX0_bitsAt 4 = .ok (.iload_n 1, 1) := by decide +kernel
theorem dX0_bitsAt_5 : decode cX0_bitsAt 5 = .ok (.aload_n 0, 1) := by decide +kernel
theorem dX0_bitsAt_6 : decode cX0_bitsAt 6 = .ok (.arraylength, 1) := by decide +kernel
theorem dX0_bitsAt_7 : decode cX0_bitsAt 7 = .ok (.if_icmp .ge 9, 3) := by decide +kernel
theorem dX0_bitsAt_10 : decode cX0_bitsAt 10 = .ok (.aload_n 0, 1) := by decide +kernel
theorem dX0_bitsAt_11 : decode cX0_bitsAt 11 = .ok (.iload_n 1, 1) := by decide +kernel
theorem dX0_bitsAt_12 : decode cX0_bitsAt 12 = .ok (.laload, 1) := by decide +kernel
theorem dX0_bitsAt_13 : decode cX0_bitsAt 13 = .ok (.goto 4, 3) := by decide +kernel
theorem dX0_bitsAt_16 : decode cX0_bitsAt 16 = .ok (.lconst 0, 1) := by decide +kernel
theorem dX0_bitsAt_17 : decode cX0_bitsAt 17 = .ok (.lreturn, 1) := by decide +kernel
theorem dX0_putBits_0 : decode cX0_putBits 0 = .ok (.iload_n 1, 1) := by decide +kernel
theorem dX0_putBits_1 : decode cX0_putBits 1 = .ok (.ifCond .lt 13, 3) := by decide +kernel
theorem dX0_putBits_4 : decode cX0_putBits 4 = .ok (.iload_n 1, 1) := by decide +kernel
theorem dX0_putBits_5 : decode cX0_putBits 5 = .ok (.aload_n 0, 1) := by decide +kernel
theorem dX0_putBits_6 : decode cX0_putBits 6 = .ok (.arraylength, 1) := by decide +kernel
theorem dX0_putBits_7 : decode cX0_putBits 7 = .ok (.if_icmp .ge 7, 3) := by decide +kernel
theorem dX0_putBits_10 : decode cX0_putBits 10 = .ok (.aload_n 0, 1) := by decide +kernel
theorem dX0_putBits_11 : decode cX0_putBits 11 = .ok (.iload_n 1, 1) := by decide +kernel
theorem dX0_putBits_12 : decode cX0_putBits 12 = .ok (.lload_n 2, 1) := by decide +kernel
theorem dX0_putBits_13 : decode cX0_putBits 13 = .ok (.lastore, 1) := by decide +kernel
theorem dX0_putBits_14 : decode cX0_putBits 14 = .ok (.return_, 1) := by decide +kernel
theorem dX0_bitOf_0 : decode cX0_bitOf 0 = .ok (.lconst 1, 1) := by decide +kernel
theorem dX0_bitOf_1 : decode cX0_bitOf 1 = .ok (.iload_n 0, 1) := by decide +kernel
theorem dX0_bitOf_2 : decode cX0_bitOf 2 = .ok (.lshl, 1) := by decide +kernel
theorem dX0_bitOf_3 : decode cX0_bitOf 3 = .ok (.lreturn, 1) := by decide +kernel
theorem dJ13_bitCount_95d88_0 : decode cJ13_bitCount_95d88 0 = .ok (.lload_n 0, 1) := by decide +kernel
theorem dJ13_bitCount_95d88_1 : decode cJ13_bitCount_95d88 1 = .ok (.lload_n 0, 1) := by decide +kernel
theorem dJ13_bitCount_95d88_2 : decode cJ13_bitCount_95d88 2 = .ok (.iconst 1, 1) := by decide +kernel
theorem dJ13_bitCount_95d88_3 : decode cJ13_bitCount_95d88 3 = .ok (.lushr, 1) := by decide +kernel
theorem dJ13_bitCount_95d88_4 : decode cJ13_bitCount_95d88 4 = .ok (.ldc2_w 314, 3) := by decide +kernel
theorem dJ13_bitCount_95d88_7 : decode cJ13_bitCount_95d88 7 = .ok (.land, 1) := by decide +kernel
theorem dJ13_bitCount_95d88_8 : decode cJ13_bitCount_95d88 8 = .ok (.lsub, 1) := by decide +kernel
theorem dJ13_bitCount_95d88_9 : decode cJ13_bitCount_95d88 9 = .ok (.lstore_n 0, 1) := by decide +kernel
theorem dJ13_bitCount_95d88_10 : decode cJ13_bitCount_95d88 10 = .ok (.lload_n 0, 1) := by decide +kernel
theorem dJ13_bitCount_95d88_11 : decode cJ13_bitCount_95d88 11 = .ok (.ldc2_w 316, 3) := by decide +kernel
theorem dJ13_bitCount_95d88_14 : decode cJ13_bitCount_95d88 14 = .ok (.land, 1) := by decide +kernel
theorem dJ13_bitCount_95d88_15 : decode cJ13_bitCount_95d88 15 = .ok (.lload_n 0, 1) := by decide +kernel
theorem dJ13_bitCount_95d88_16 : decode cJ13_bitCount_95d88 16 = .ok (.iconst 2, 1) := by decide +kernel
theorem dJ13_bitCount_95d88_17 : decode cJ13_bitCount_95d88 17 = .ok (.lushr, 1) := by decide +kernel
theorem dJ13_bitCount_95d88_18 : decode cJ13_bitCount_95d88 18 = .ok (.ldc2_w 316, 3) := by decide +kernel
theorem dJ13_bitCount_95d88_21 : decode cJ13_bitCount_95d88 21 = .ok (.land, 1) := by decide +kernel
theorem dJ13_bitCount_95d88_22 : decode cJ13_bitCount_95d88 22 = .ok (.ladd, 1) := by decide +kernel
theorem dJ13_bitCount_95d88_23 : decode cJ13_bitCount_95d88 23 = .ok (.lstore_n 0, 1) := by decide +kernel
theorem dJ13_bitCount_95d88_24 : decode cJ13_bitCount_95d88 24 = .ok (.lload_n 0, 1) := by decide +kernel
theorem dJ13_bitCount_95d88_25 : decode cJ13_bitCount_95d88 25 = .ok (.lload_n 0, 1) := by decide +kernel
theorem dJ13_bitCount_95d88_26 : decode cJ13_bitCount_95d88 26 = .ok (.iconst 4, 1) := by decide +kernel
theorem dJ13_bitCount_95d88_27 : decode cJ13_bitCount_95d88 27 = .ok (.lushr, 1) := by decide +kernel
theorem dJ13_bitCount_95d88_28 : decode cJ13_bitCount_95d88 28 = .ok (.ladd, 1) := by decide +kernel
theorem dJ13_bitCount_95d88_29 : decode cJ13_bitCount_95d88 29 = .ok (.ldc2_w 318, 3) := by decide +kernel
theorem dJ13_bitCount_95d88_32 : decode cJ13_bitCount_95d88 32 = .ok (.land, 1) := by decide +kernel
theorem dJ13_bitCount_95d88_33 : decode cJ13_bitCount_95d88 33 = .ok (.lstore_n 0, 1) := by decide +kernel
theorem dJ13_bitCount_95d88_34 : decode cJ13_bitCount_95d88 34 = .ok (.lload_n 0, 1) := by decide +kernel
theorem dJ13_bitCount_95d88_35 : decode cJ13_bitCount_95d88 35 = .ok (.lload_n 0, 1) := by decide +kernel
theorem dJ13_bitCount_95d88_36 : decode cJ13_bitCount_95d88 36 = .ok (.bipush 8, 2) := by decide +kernel
theorem dJ13_bitCount_95d88_38 : decode cJ13_bitCount_95d88 38 = .ok (.lushr, 1) := by decide +kernel
theorem dJ13_bitCount_95d88_39 : decode cJ13_bitCount_95d88 39 = .ok (.ladd, 1) := by decide +kernel
theorem dJ13_bitCount_95d88_40 : decode cJ13_bitCount_95d88 40 = .ok (.lstore_n 0, 1) := by decide +kernel
theorem dJ13_bitCount_95d88_41 : decode cJ13_bitCount_95d88 41 = .ok (.lload_n 0, 1) := by decide +kernel
theorem dJ13_bitCount_95d88_42 : decode cJ13_bitCount_95d88 42 = .ok (.lload_n 0, 1) := by decide +kernel
theorem dJ13_bitCount_95d88_43 : decode cJ13_bitCount_95d88 43 = .ok (.bipush 16, 2) := by decide +kernel
theorem dJ13_bitCount_95d88_45 : decode cJ13_bitCount_95d88 45 = .ok (.lushr, 1) := by decide +kernel
theorem dJ13_bitCount_95d88_46 : decode cJ13_bitCount_95d88 46 = .ok (.ladd, 1) := by decide +kernel
theorem dJ13_bitCount_95d88_47 : decode cJ13_bitCount_95d88 47 = .ok (.lstore_n 0, 1) := by decide +kernel
theorem dJ13_bitCount_95d88_48 : decode cJ13_bitCount_95d88 48 = .ok (.lload_n 0, 1) := by decide +kernel
theorem dJ13_bitCount_95d88_49 : decode cJ13_bitCount_95d88 49 = .ok (.lload_n 0, 1) := by decide +kernel
theorem dJ13_bitCount_95d88_50 : decode cJ13_bitCount_95d88 50 = .ok (.bipush 32, 2) := by decide +kernel
theorem dJ13_bitCount_95d88_52 : decode cJ13_bitCount_95d88 52 = .ok (.lushr, 1) := by decide +kernel
theorem dJ13_bitCount_95d88_53 : decode cJ13_bitCount_95d88 53 = .ok (.ladd, 1) := by decide +kernel
theorem dJ13_bitCount_95d88_54 : decode cJ13_bitCount_95d88 54 = .ok (.lstore_n 0, 1) := by decide +kernel
theorem dJ13_bitCount_95d88_55 : decode cJ13_bitCount_95d88 55 = .ok (.lload_n 0, 1) := by decide +kernel
theorem dJ13_bitCount_95d88_56 : decode cJ13_bitCount_95d88 56 = .ok (.l2i, 1) := by decide +kernel
theorem dJ13_bitCount_95d88_57 : decode cJ13_bitCount_95d88 57 = .ok (.bipush 127, 2) := by decide +kernel
theorem dJ13_bitCount_95d88_59 : decode cJ13_bitCount_95d88 59 = .ok (.iand, 1) := by decide +kernel
theorem dJ13_bitCount_95d88_60 : decode cJ13_bitCount_95d88 60 = .ok (.ireturn, 1) := by decide +kernel
theorem dJ9_max_7cf53_0 : decode cJ9_max_7cf53 0 = .ok (.iload_n 0, 1) := by decide +kernel
theorem dJ9_max_7cf53_1 : decode cJ9_max_7cf53 1 = .ok (.iload_n 1, 1) := by decide +kernel
theorem dJ9_max_7cf53_2 : decode cJ9_max_7cf53 2 = .ok (.if_icmp .lt 7, 3) := by decide +kernel
theorem dJ9_max_7cf53_5 : decode cJ9_max_7cf53 5 = .ok (.iload_n 0, 1) := by decide +kernel
theorem dJ9_max_7cf53_6 : decode cJ9_max_7cf53 6 = .ok (.goto 4, 3) := by decide +kernel
theorem dJ9_max_7cf53_9 : decode cJ9_max_7cf53 9 = .ok (.iload_n 1, 1) := by decide +kernel
theorem dJ9_max_7cf53_10 : decode cJ9_max_7cf53 10 = .ok (.ireturn, 1) := by decide +kernel
theorem dJ9_min_7cf53_0 : decode cJ9_min_7cf53 0 = .ok (.iload_n 0, 1) := by decide +kernel
theorem dJ9_min_7cf53_1 : decode cJ9_min_7cf53 1 = .ok (.iload_n 1, 1) := by decide +kernel
theorem dJ9_min_7cf53_2 : decode cJ9_min_7cf53 2 = .ok (.if_icmp .gt 7, 3) := by decide +kernel
theorem dJ9_min_7cf53_5 : decode cJ9_min_7cf53 5 = .ok (.iload_n 0, 1) := by decide +kernel
theorem dJ9_min_7cf53_6 : decode cJ9_min_7cf53 6 = .ok (.goto 4, 3) := by decide +kernel
theorem dJ9_min_7cf53_9 : decode cJ9_min_7cf53 9 = .ok (.iload_n 1, 1) := by decide +kernel
theorem dJ9_min_7cf53_10 : decode cJ9_min_7cf53 10 = .ok (.ireturn, 1) := by decide +kernel
end
section
/-! rows on bits, shifts and unsigned numbers, to paste: each family out of a closed proof of our own, whole with what it rests on; each by itself clean at Lean in its own claim (generation 39, form 5). Take a family whole -/
/-! ===== Int32 by its bits: bt x i ===== -/
def bt (x : Int32) (i : Nat) : Bool := x.toBitVec.getLsbD i
theorem b_ext {x y : Int32} (h : ∀ i, i < 32 → bt x i = bt y i) : x = y := Int32.toBitVec_inj.mp (BitVec.eq_of_getLsbD_eq (fun i hi => h i hi))
theorem b_or (x y : Int32) (i : Nat) : bt (x ||| y) i = (bt x i || bt y i) := by unfold bt; rw [Int32.toBitVec_or, BitVec.getLsbD_or]
theorem b_and (x y : Int32) (i : Nat) : bt (x &&& y) i = (bt x i && bt y i) := by unfold bt; rw [Int32.toBitVec_and, BitVec.getLsbD_and]
theorem b_xor (x y : Int32) (i : Nat) : bt (x ^^^ y) i = (bt x i ^^ bt y i) := by unfold bt; rw [Int32.toBitVec_xor, BitVec.getLsbD_xor]
theorem b_big {x : Int32} {i : Nat} (h : 32 ≤ i) : bt x i = false := BitVec.getLsbD_of_ge _ _ h
theorem b_255 (i : Nat) : bt 255 i = decide (i < 8) := by
  rcases Nat.lt_or_ge i 32 with h | h
  · exact (by decide +kernel : ∀ i, i < 32 → bt 255 i = decide (i < 8)) i h
  · rw [b_big h, decide_eq_false (by omega)]
theorem b_65535 (i : Nat) : bt 65535 i = decide (i < 16) := by
  rcases Nat.lt_or_ge i 32 with h | h
  · exact (by decide +kernel : ∀ i, i < 32 → bt 65535 i = decide (i < 16)) i h
  · rw [b_big h, decide_eq_false (by omega)]
theorem b_m1 : ∀ i, i < 32 → bt (-1) i = true := by decide +kernel
theorem b_0 (i : Nat) : bt 0 i = false := BitVec.getLsbD_zero
theorem s_l : ∀ n, n < 32 → ((nI n &&& 31).toBitVec.smod 32).toNat = n := by decide +kernel
theorem s_u : ∀ n, n < 32 → (((nI n).toUInt32 &&& Int32.toUInt32 31).toBitVec % 32).toNat = n := by decide +kernel
theorem b_shl (n : Nat) (hn : n < 32) (x : Int32) {i : Nat} (hi : i < 32) : bt (x <<< (nI n &&& 31)) i = (decide (n ≤ i) && bt x (i - n)) := by
  unfold bt
  rw [Int32.toBitVec_shiftLeft]
  show (x.toBitVec <<< ((nI n &&& 31).toBitVec.smod 32).toNat).getLsbD i = _
  rw [s_l n hn, BitVec.getLsbD_shiftLeft]
  rcases Nat.lt_or_ge i n with h | h
  · simp [h, Nat.not_le.mpr h]
  · simp [hi, h, Nat.not_lt.mpr h]
theorem b_ushr (n : Nat) (hn : n < 32) (x : Int32) (i : Nat) : bt ((x.toUInt32 >>> ((nI n).toUInt32 &&& Int32.toUInt32 31)).toInt32) i = bt x (n + i) := by
  show (x.toUInt32 >>> ((nI n).toUInt32 &&& Int32.toUInt32 31)).toBitVec.getLsbD i = x.toUInt32.toBitVec.getLsbD (n + i)
  rw [UInt32.toBitVec_shiftRight]
  show (x.toUInt32.toBitVec >>> (((nI n).toUInt32 &&& Int32.toUInt32 31).toBitVec % 32).toNat).getLsbD i = _
  rw [s_u n hn, BitVec.getLsbD_ushiftRight]
theorem b_sshr (n : Nat) (hn : n < 32) (x : Int32) {i : Nat} (hi : i < 32) : bt (x >>> (nI n &&& 31)) i = if n + i < 32 then bt x (n + i) else bt x 31 := by
  unfold bt
  rw [Int32.toBitVec_shiftRight]
  show (x.toBitVec.sshiftRight ((nI n &&& 31).toBitVec.smod 32).toNat).getLsbD i = _
  rw [s_l n hn, BitVec.getLsbD_sshiftRight, BitVec.msb_eq_getLsbD_last]
  simp [hi]
theorem b_shl8 (x : Int32) {i : Nat} (hi : i < 32) : bt (x <<< ((8 : Int32) &&& 31)) i = (decide (8 ≤ i) && bt x (i - 8)) := b_shl 8 (by omega) x hi
theorem b_shl16 (x : Int32) {i : Nat} (hi : i < 32) : bt (x <<< ((16 : Int32) &&& 31)) i = (decide (16 ≤ i) && bt x (i - 16)) := b_shl 16 (by omega) x hi
theorem b_shl24 (x : Int32) {i : Nat} (hi : i < 32) : bt (x <<< ((24 : Int32) &&& 31)) i = (decide (24 ≤ i) && bt x (i - 24)) := b_shl 24 (by omega) x hi
theorem b_sshr8 (x : Int32) {i : Nat} (hi : i < 32) : bt (x >>> ((8 : Int32) &&& 31)) i = if 8 + i < 32 then bt x (8 + i) else bt x 31 := b_sshr 8 (by omega) x hi
/-! ===== nI under and, xor, >>>, one bit, 65535 ===== -/
theorem nx_and (a b : Nat) : nI a &&& nI b = nI (a &&& b) := by
  apply Int32.toBitVec_inj.1
  show BitVec.ofNat 32 a &&& BitVec.ofNat 32 b = BitVec.ofNat 32 (a &&& b)
  apply BitVec.eq_of_getLsbD_eq
  intro i hi
  simp [hi]
theorem nx_xor (a b : Nat) : nI a ^^^ nI b = nI (a ^^^ b) := by
  apply Int32.toBitVec_inj.1
  show BitVec.ofNat 32 a ^^^ BitVec.ofNat 32 b = BitVec.ofNat 32 (a ^^^ b)
  apply BitVec.eq_of_getLsbD_eq
  intro i hi
  simp [hi]
theorem nx_cnt : ∀ j : Fin 32, (UInt32.ofNat j.val &&& Int32.toUInt32 31).toNat % 32 = j.val := by decide +kernel
theorem nx_ush {k j : Nat} (hk : k < 65536) (hj : j < 32) : ((nI k).toUInt32 >>> ((nI j).toUInt32 &&& Int32.toUInt32 31)).toInt32 = nI (k >>> j) := by
  have hs : k >>> j ≤ k := by
    rw [Nat.shiftRight_eq_div_pow]
    exact Nat.div_le_self _ _
  have e2 : UInt32.ofNat k >>> (UInt32.ofNat j &&& Int32.toUInt32 31) = UInt32.ofNat (k >>> j) := by
    apply UInt32.toNat_inj.1
    have h1 : (UInt32.ofNat k).toNat = k := Nat.mod_eq_of_lt (by omega)
    have h2 : (UInt32.ofNat (k >>> j)).toNat = k >>> j := Nat.mod_eq_of_lt (by omega)
    rw [UInt32.toNat_shiftRight, nx_cnt ⟨j, hj⟩, h1, h2]
  show (UInt32.ofNat k >>> (UInt32.ofNat j &&& Int32.toUInt32 31)).toInt32 = _
  rw [e2]
  rfl
theorem nx_bit {k j : Nat} (hk : k < 65536) (hj : j < 16) : (((nI k).toUInt32 >>> ((nI j).toUInt32 &&& Int32.toUInt32 31)).toInt32 &&& 1) = 0 ↔ k.testBit j = false := by
  rw [nx_ush hk (by omega)]
  show nI (k >>> j) &&& nI 1 = 0 ↔ _
  rw [nx_and, Nat.and_one_is_mod, ← nI_0, nI_eq (by omega) (by omega), Nat.testBit_eq_decide_div_mod_eq, Nat.shiftRight_eq_div_pow, decide_eq_false_iff_not]
  generalize k / 2 ^ j = z
  omega
theorem nx_mod (k : Nat) : nI k &&& 65535 = nI (k % 65536) := by
  show nI k &&& nI 65535 = _
  rw [nx_and, show (65535 : Nat) = 2 ^ 16 - 1 from rfl, Nat.and_two_pow_sub_one_eq_mod]
theorem nx_m16 {k : Nat} (h : k < 65536) : nI k &&& 65535 = nI k := by rw [nx_mod, Nat.mod_eq_of_lt h]
theorem nx_mask (x : Int32) : ∃ k, k < 65536 ∧ x &&& 65535 = nI k := by
  have e : x = nI x.toBitVec.toNat := by
    apply Int32.toBitVec_inj.1
    show x.toBitVec = BitVec.ofNat 32 x.toBitVec.toNat
    simp
  refine ⟨x.toBitVec.toNat % 65536, Nat.mod_lt _ (by omega), ?_⟩
  rw [← nx_mod, ← e]
/-! ===== Int32 as a set of bits: test, set ===== -/
def nf_M (m : Int32) : Nat := 4294967296 - m.toBitVec.toNat
theorem nf_sh : ∀ l, l < 32 → ((1 : Int32) <<< (nI l &&& 31)).toBitVec = BitVec.twoPow 32 l := by decide +kernel
theorem nf_sl : ∀ l, l < 32 → (((nI l).toUInt32 &&& Int32.toUInt32 31).toBitVec % 32).toNat = l := by decide +kernel
theorem nf_tp : ∀ l, l < 32 → BitVec.twoPow 32 l ≠ 0#32 := by decide +kernel
theorem nf_bit (m : Int32) (l : Nat) (hl : l < 32) : ((m.toUInt32 >>> ((nI l).toUInt32 &&& Int32.toUInt32 31)).toInt32 &&& 1) = 0 ↔ (m &&& ((1 : Int32) <<< (nI l &&& 31))) = 0 := by
  have e : ((m.toUInt32 >>> ((nI l).toUInt32 &&& Int32.toUInt32 31)).toInt32).toBitVec = m.toBitVec >>> l := by
    show m.toBitVec >>> (((nI l).toUInt32 &&& Int32.toUInt32 31).toBitVec % 32) = m.toBitVec >>> l
    rw [BitVec.ushiftRight_eq', nf_sl l hl]
  rw [← Int32.toBitVec_inj, ← Int32.toBitVec_inj, Int32.toBitVec_and, Int32.toBitVec_and, nf_sh l hl, e, BitVec.and_twoPow]
  show (m.toBitVec >>> l &&& 1#32) = 0#32 ↔ _ = 0#32
  rw [BitVec.and_one_eq_setWidth_ofBool_getLsbD, BitVec.getLsbD_ushiftRight, Nat.add_zero]
  cases hb : m.toBitVec.getLsbD l
  · exact ⟨fun _ => by simp, fun _ => by decide⟩
  · exact ⟨fun z => absurd z (by decide), fun z => absurd ((if_pos rfl).symm.trans z) (nf_tp l hl)⟩
theorem nf_gr (m k : Int32) (h : m &&& k = 0) (hk : k ≠ 0) : nf_M (m ||| k) < nf_M m := by
  have hm := m.toBitVec.isLt
  have hm' := (m ||| k).toBitVec.isLt
  have h1 : m.toBitVec.toNat ≤ (m ||| k).toBitVec.toNat := by
    rw [Int32.toBitVec_or, BitVec.toNat_or]
    exact Nat.left_le_or
  have h2 : m.toBitVec.toNat ≠ (m ||| k).toBitVec.toNat := by
    intro e
    have e2 : m = m ||| k := Int32.toBitVec_inj.mp (BitVec.eq_of_toNat_eq e)
    apply hk
    apply Int32.toBitVec_inj.mp
    show k.toBitVec = 0#32
    apply BitVec.eq_of_getLsbD_eq
    intro i hi
    have a : m.toBitVec.getLsbD i = (m.toBitVec.getLsbD i || k.toBitVec.getLsbD i) := by rw [← BitVec.getLsbD_or, ← Int32.toBitVec_or, ← e2]
    have b : (m.toBitVec.getLsbD i && k.toBitVec.getLsbD i) = false := by
      rw [← BitVec.getLsbD_and, ← Int32.toBitVec_and, h]
      exact BitVec.getLsbD_zero
    rw [BitVec.getLsbD_zero]
    revert a b
    cases m.toBitVec.getLsbD i <;> cases k.toBitVec.getLsbD i <;> simp
  unfold nf_M
  omega
/-! ===== a byte read unsigned ===== -/
theorem bp_b (x : Int32) : x.toInt8.toInt32 &&& 255 = x &&& 255 := by
  apply Int32.toBitVec_inj.mp
  rw [Int32.toBitVec_and, Int32.toBitVec_and, Int8.toBitVec_toInt32, Int32.toBitVec_toInt8]
  apply BitVec.eq_of_getLsbD_eq
  intro i hi
  rw [BitVec.getLsbD_and, BitVec.getLsbD_and]
  have hm : ∀ i < 32, 8 ≤ i → (255 : Int32).toBitVec.getLsbD i = false := by decide
  rcases Nat.lt_or_ge i 8 with z | z
  · rw [BitVec.getLsbD_signExtend, BitVec.getLsbD_signExtend, if_pos z, if_pos hi]
    simp only [z, hi, decide_true, Bool.true_and]
  · rw [hm i hi z]; simp
/-! ===== the char cast and 65535 ===== -/
/-! ===== Int64 as a set of bits: test, set, clear ===== -/
theorem ts_nf {x : Bool} (h : ¬ x = false) : x = true := by cases x <;> first | rfl | exact absurd rfl h
theorem ts_nt {x : Bool} (h : ¬ x = true) : x = false := by cases x <;> first | rfl | exact absurd rfl h
theorem ts_bit {w : Int64} {s : UInt64} {j : Nat} (hj : j < 64) (hs : s.toNat = j) : ((w.toUInt64 >>> s).toInt64 &&& 1) = 0 ↔ w.toBitVec.getLsbD j = false := by
  have e : (w.toUInt64 >>> s).toInt64.toBitVec = w.toBitVec >>> j := by
    apply BitVec.eq_of_toNat_eq
    show (w.toUInt64 >>> s).toNat = _
    rw [UInt64.toNat_shiftRight, hs, Nat.mod_eq_of_lt hj, BitVec.toNat_ushiftRight]
    rfl
  rw [← Int64.toBitVec_inj, Int64.toBitVec_and, e]
  show w.toBitVec >>> j &&& 1#64 = 0#64 ↔ _
  constructor
  · intro h
    have t := congrArg (fun x => x.getLsbD 0) h
    simpa using t
  · intro h
    apply BitVec.eq_of_getLsbD_eq
    intro i hi
    cases i with
    | zero => simp [h]
    | succ i => simp
theorem ts_or {w m : Int64} {j : Nat} (hj : j < 64) (hm : m.toBitVec = BitVec.twoPow 64 j) : (w ||| m) = w ↔ w.toBitVec.getLsbD j = true := by
  rw [← Int64.toBitVec_inj, Int64.toBitVec_or, hm]
  constructor
  · intro h
    have t := congrArg (fun x => x.getLsbD j) h
    simp only [BitVec.getLsbD_or, BitVec.getLsbD_twoPow] at t
    simpa [hj] using t.symm
  · intro h
    apply BitVec.eq_of_getLsbD_eq
    intro i hi
    rw [BitVec.getLsbD_or, BitVec.getLsbD_twoPow]
    by_cases e : j = i
    · subst e; rw [h, Bool.true_or]
    · simp [e]
theorem ts_and {w m : Int64} {j : Nat} (hj : j < 64) (hm : m.toBitVec = BitVec.twoPow 64 j) : (w &&& (m ^^^ (-1))) = w ↔ w.toBitVec.getLsbD j = false := by
  have ha : (-1 : Int64).toBitVec = BitVec.allOnes 64 := by decide
  rw [← Int64.toBitVec_inj, Int64.toBitVec_and, Int64.toBitVec_xor, hm, ha]
  constructor
  · intro h
    have t := congrArg (fun x => x.getLsbD j) h
    simp only [BitVec.getLsbD_and, BitVec.getLsbD_xor, BitVec.getLsbD_twoPow, BitVec.getLsbD_allOnes] at t
    simpa [hj] using t.symm
  · intro h
    apply BitVec.eq_of_getLsbD_eq
    intro i hi
    rw [BitVec.getLsbD_and, BitVec.getLsbD_xor, BitVec.getLsbD_twoPow, BitVec.getLsbD_allOnes]
    by_cases e : j = i
    · subst e; rw [h, Bool.false_and]
    · simp [e, hi]
/-! ===== lN n to 2^64: shifts, and, or, masks, one bit ===== -/
theorem wb_tb (n : Nat) : (lN n).toBitVec = BitVec.ofNat 64 n := rfl
theorem wb_inj {a b : Int64} (h : a.toBitVec = b.toBitVec) : a = b := Int64.toBitVec_inj.mp h
theorem wb_tn {n : Nat} (h : n < 2 ^ 64) : (lN n).toBitVec.toNat = n := by rw [wb_tb, BitVec.toNat_ofNat, Nat.mod_eq_of_lt h]
theorem wb_of (x : Int64) : ∃ n, n < 2 ^ 64 ∧ x = lN n := ⟨x.toBitVec.toNat, x.toBitVec.isLt, wb_inj (by rw [wb_tb]; simp)⟩
theorem wb_of32 (x : Int32) : ∃ n, n < 2 ^ 32 ∧ x = nI n := ⟨x.toBitVec.toNat, x.toBitVec.isLt, Int32.toBitVec_inj.mp (by show _ = BitVec.ofNat 32 _; simp)⟩
theorem wb_c : ∀ k, k < 64 → ((nI k).toInt64 &&& 63) = lN k := by decide +kernel
theorem wb_cu : ∀ k, k < 64 → ((nI k).toInt64.toUInt64 &&& Int64.toUInt64 63) = UInt64.ofNat k := by decide +kernel
theorem wb_sm : ∀ k, k < 64 → (BitVec.ofNat 64 k).smod 64 = BitVec.ofNat 64 k := by decide +kernel
theorem wb_pw {a b : Nat} (h : a ≤ b) : 2 ^ b = 2 ^ a * 2 ^ (b - a) := by rw [← Nat.pow_add]; congr 1; omega
theorem wb_lt2 {a b : Nat} (h : a < b) : 2 ^ a < 2 ^ b := Nat.pow_lt_pow_right (by decide) h
theorem wb_mod (n : Nat) : lN n = lN (n % 2 ^ 64) := wb_inj (by rw [wb_tb, wb_tb]; apply BitVec.eq_of_toNat_eq; rw [BitVec.toNat_ofNat, BitVec.toNat_ofNat, Nat.mod_mod])
theorem wb_shr {n k : Nat} (hn : n < 2 ^ 64) (hk : k < 64) : ((lN n).toUInt64 >>> ((nI k).toInt64.toUInt64 &&& Int64.toUInt64 63)).toInt64 = lN (n / 2 ^ k) := by
  rw [wb_cu k hk]
  apply wb_inj
  apply BitVec.eq_of_toNat_eq
  show ((lN n).toUInt64 >>> UInt64.ofNat k).toNat = (BitVec.ofNat 64 _).toNat
  have h1 : (UInt64.ofNat k).toNat = k := by
    show (BitVec.ofNat 64 k).toNat = k
    rw [BitVec.toNat_ofNat, Nat.mod_eq_of_lt (by omega)]
  have h2 : (lN n).toUInt64.toNat = n := wb_tn hn
  rw [UInt64.toNat_shiftRight, h1, h2, Nat.mod_eq_of_lt hk, Nat.shiftRight_eq_div_pow, BitVec.toNat_ofNat, Nat.mod_eq_of_lt (Nat.lt_of_le_of_lt (Nat.div_le_self _ _) hn)]
theorem wb_shl (n : Nat) {k : Nat} (hk : k < 64) : lN n <<< ((nI k).toInt64 &&& 63) = lN (n * 2 ^ k) := by
  rw [wb_c k hk]
  apply wb_inj
  rw [Int64.toBitVec_shiftLeft, wb_tb, wb_tb, wb_tb, wb_sm k hk]
  apply BitVec.eq_of_toNat_eq
  rw [BitVec.shiftLeft_eq', BitVec.toNat_shiftLeft, BitVec.toNat_ofNat, BitVec.toNat_ofNat, BitVec.toNat_ofNat, Nat.mod_eq_of_lt (show k < 2 ^ 64 by omega), Nat.shiftLeft_eq, Nat.mul_mod, Nat.mod_mod, ← Nat.mul_mod]
theorem wb_and {a b : Nat} (ha : a < 2 ^ 64) (hb : b < 2 ^ 64) : lN a &&& lN b = lN (a &&& b) := by
  apply wb_inj
  rw [Int64.toBitVec_and, wb_tb, wb_tb, wb_tb]
  apply BitVec.eq_of_toNat_eq
  rw [BitVec.toNat_and, BitVec.toNat_ofNat, BitVec.toNat_ofNat, BitVec.toNat_ofNat, Nat.mod_eq_of_lt ha, Nat.mod_eq_of_lt hb, Nat.mod_eq_of_lt (Nat.and_lt_two_pow _ hb)]
theorem wb_or {a b : Nat} (ha : a < 2 ^ 64) (hb : b < 2 ^ 64) : lN a ||| lN b = lN (a ||| b) := by
  apply wb_inj
  rw [Int64.toBitVec_or, wb_tb, wb_tb, wb_tb]
  apply BitVec.eq_of_toNat_eq
  rw [BitVec.toNat_or, BitVec.toNat_ofNat, BitVec.toNat_ofNat, BitVec.toNat_ofNat, Nat.mod_eq_of_lt ha, Nat.mod_eq_of_lt hb, Nat.mod_eq_of_lt (Nat.or_lt_two_pow ha hb)]
theorem wb_mask {n k : Nat} (hn : n < 2 ^ 64) (hk : k < 64) : lN n &&& lN (2 ^ k - 1) = lN (n % 2 ^ k) := by
  rw [wb_and hn (by have := wb_lt2 hk; omega), Nat.and_two_pow_sub_one_eq_mod]
theorem wb_a1 {n : Nat} (hn : n < 2 ^ 64) : lN n &&& 1 = lN (n % 2) := wb_mask (k := 1) hn (by decide)
theorem wb_bit {n k : Nat} (hn : n < 2 ^ 64) (hk : k < 64) : ((lN n).toUInt64 >>> ((nI k).toInt64.toUInt64 &&& Int64.toUInt64 63)).toInt64 &&& 1 = lN (n / 2 ^ k % 2) := by
  rw [wb_shr hn hk, wb_a1 (Nat.lt_of_le_of_lt (Nat.div_le_self _ _) hn)]
theorem wb_xor {q k : Nat} (hk : k < 63) (h : 2 ^ k ≤ q) (h2 : q < 2 ^ (k + 1)) : lN q ^^^ lN (2 ^ k) = lN (q - 2 ^ k) := by
  obtain ⟨r, rfl⟩ : ∃ r, q = 2 ^ k + r := ⟨q - 2 ^ k, by omega⟩
  have hr : r < 2 ^ k := by rw [Nat.pow_succ] at h2; omega
  have hx : (2 ^ k + r) ^^^ 2 ^ k = r := by
    apply Nat.eq_of_testBit_eq
    intro i
    rw [Nat.testBit_xor, Nat.testBit_two_pow]
    rcases Nat.lt_trichotomy i k with h | h | h
    · rw [Nat.testBit_two_pow_add_gt h]
      simp [show ¬ k = i by omega]
    · subst h
      rw [Nat.testBit_two_pow_add_eq]
      simp
    · have a1 : 2 ^ (k + 1) ≤ 2 ^ i := Nat.pow_le_pow_right (by decide) h
      rw [Nat.testBit_lt_two_pow (show 2 ^ k + r < 2 ^ i by omega), Nat.testBit_lt_two_pow (show r < 2 ^ i by omega)]
      simp [show ¬ k = i by omega]
  have b1 := wb_lt2 (show k + 1 < 64 by omega)
  have b2 := wb_lt2 (show k < 64 by omega)
  apply wb_inj
  rw [Int64.toBitVec_xor, wb_tb, wb_tb, wb_tb]
  apply BitVec.eq_of_toNat_eq
  rw [BitVec.toNat_xor, BitVec.toNat_ofNat, BitVec.toNat_ofNat, BitVec.toNat_ofNat, Nat.mod_eq_of_lt (by omega : 2 ^ k + r < 2 ^ 64), Nat.mod_eq_of_lt b2, hx, Nat.add_sub_cancel_left, Nat.mod_eq_of_lt (by omega)]
/-! ===== lN: masks, 'or' of parts that don't overlap is a sum ===== -/
theorem u_tn {n : Nat} (h : n < 2 ^ 64) : (UInt64.ofNat n).toNat = n := Nat.mod_eq_of_lt h
theorem g_and {a b c : Nat} (ha : a < 2 ^ 64) (hb : b < 2 ^ 64) (hc : a &&& b = c) : lN a &&& lN b = lN c := by
  subst hc
  have h : UInt64.ofNat a &&& UInt64.ofNat b = UInt64.ofNat (a &&& b) := UInt64.toNat_inj.mp (by rw [UInt64.toNat_and, u_tn ha, u_tn hb, u_tn (Nat.and_lt_two_pow a hb)])
  have h2 := congrArg UInt64.toInt64 h
  exact h2
theorem g_and1 {a : Nat} (ha : a < 2 ^ 64) : lN a &&& 1 = lN (a % 2) := g_and (b := 1) ha (by decide) (Nat.and_two_pow_sub_one_eq_mod a 1)
theorem g_mask {a s p : Nat} (hp : 2 ^ s = p) (hs : s < 64) (ha : a < 2 ^ 64) : lN a &&& lN (p - 1) = lN (a % p) := by
  subst hp
  have := Nat.pow_lt_pow_right (show 1 < 2 by decide) hs
  exact g_and ha (by omega) (Nat.and_two_pow_sub_one_eq_mod a s)
theorem g_or {k p a b : Nat} (hp : 2 ^ k = p) (ha : a < p) (h : b * p + a < 2 ^ 64) : lN (b * p) ||| lN a = lN (b * p + a) := by
  subst hp
  have h1 : b * 2 ^ k ||| a = b * 2 ^ k + a := by rw [← Nat.shiftLeft_eq, Nat.shiftLeft_add_eq_or_of_lt ha]
  have h3 : UInt64.ofNat (b * 2 ^ k) ||| UInt64.ofNat a = UInt64.ofNat (b * 2 ^ k + a) := UInt64.toNat_inj.mp (by rw [UInt64.toNat_or, u_tn (by omega), u_tn (by omega), u_tn h, h1])
  have h2 := congrArg UInt64.toInt64 h3
  exact h2
theorem g_or' {k p a b : Nat} (hp : 2 ^ k = p) (ha : a < p) (h : a + b * p < 2 ^ 64) : lN a ||| lN (b * p) = lN (a + b * p) := by
  rw [Int64.or_comm, g_or hp ha (by omega), Nat.add_comm]
theorem g_ushr {a k p : Nat} {y : UInt64} (hy : y = UInt64.ofNat k) (hk : k < 64) (hp : 2 ^ k = p) (ha : a < 2 ^ 64) : ((lN a).toUInt64 >>> y).toInt64 = lN (a / p) := by
  subst hy hp
  have h : UInt64.ofNat a >>> UInt64.ofNat k = UInt64.ofNat (a / 2 ^ k) := UInt64.toNat_inj.mp (by rw [UInt64.toNat_shiftRight, u_tn ha, u_tn (by omega), u_tn (Nat.lt_of_le_of_lt (Nat.div_le_self _ _) ha), Nat.mod_eq_of_lt hk, Nat.shiftRight_eq_div_pow])
  have h2 := congrArg UInt64.toInt64 h
  exact h2
theorem g_shl {a k p : Nat} {y : Int64} (hy : y.toBitVec.smod 64 = BitVec.ofNat 64 k) (hk : k < 64) (hp : 2 ^ k = p) (ha : a < 2 ^ 64) : lN a <<< y = lN (a * p) := by
  subst hp
  apply Int64.toBitVec_inj.mp
  rw [Int64.toBitVec_shiftLeft, hy]
  apply BitVec.eq_of_toNat_eq
  have hb : (lN a).toBitVec.toNat = a := Nat.mod_eq_of_lt ha
  have hk' : (BitVec.ofNat 64 k).toNat = k := Nat.mod_eq_of_lt (by omega)
  have h : ((lN a).toBitVec <<< BitVec.ofNat 64 k).toNat = (a * 2 ^ k) % 2 ^ 64 := by simp only [BitVec.shiftLeft_eq', BitVec.toNat_shiftLeft, hb, hk', Nat.shiftLeft_eq]
  exact h
/-! ===== lN to 2^62 under >> and >>> ===== -/
theorem pf_lI {a : Nat} (h : a < 2 ^ 63) : (lN a).toInt = (a : Int) := lg_ofNat_toInt h
theorem pf_shr {a d : Nat} {D : Int64} (hD : (D.toBitVec.smod 64).toNat = d) (h : a < 2 ^ 62) : lN a >>> D = lN (a / 2 ^ d) := by
  have hd : a / 2 ^ d ≤ a := Nat.div_le_self _ _
  apply Int64.toInt_inj.mp
  have e : (lN a >>> D).toInt = (lN a).toInt >>> d := by
    rw [← hD]
    exact BitVec.toInt_sshiftRight ..
  rw [e, Int.shiftRight_eq_div_pow, pf_lI (by omega), pf_lI (by omega)]
  rfl
theorem pf_ushr {a d : Nat} {D : UInt64} (hD : D.toNat % 64 = d) (h : a < 2 ^ 62) : ((lN a).toUInt64 >>> D).toInt64 = lN (a / 2 ^ d) := by
  have hd : a / 2 ^ d ≤ a := Nat.div_le_self _ _
  have e : (lN a).toUInt64 >>> D = UInt64.ofNat (a / 2 ^ d) := UInt64.toNat_inj.mp (by
    rw [UInt64.toNat_shiftRight, hD, Nat.shiftRight_eq_div_pow, UInt64.toNat_ofNat']
    show (UInt64.ofNat a).toNat / 2 ^ d = _
    rw [UInt64.toNat_ofNat', Nat.mod_eq_of_lt (by omega), Nat.mod_eq_of_lt (by omega)])
  rw [e]
  rfl
theorem pf_andw (x : Int64) : ∃ m, m < 2 ^ 32 ∧ x &&& 4294967295 = lN m := ⟨x.toBitVec.toNat % 2 ^ 32, Nat.mod_lt _ (by decide), Int64.toBitVec_inj.mp (BitVec.eq_of_toNat_eq (by
  show (x.toBitVec &&& 4294967295#64).toNat = (BitVec.ofNat 64 (x.toBitVec.toNat % 2 ^ 32)).toNat
  rw [BitVec.toNat_and, show (4294967295#64).toNat = 2 ^ 32 - 1 from by decide, Nat.and_two_pow_sub_one_eq_mod, BitVec.toNat_ofNat]
  omega))⟩
/-! ===== Int64 as an unsigned number: uN x ===== -/
def uN (x : Int64) : Nat := x.toUInt64.toNat
theorem uN_lt (x : Int64) : uN x < 18446744073709551616 := x.toUInt64.toNat_lt
theorem uN_inj {x y : Int64} (h : uN x = uN y) : x = y := congrArg UInt64.toInt64 (UInt64.toNat_inj.mp h)
theorem uN_add (x y : Int64) : uN (x + y) = (uN x + uN y) % 18446744073709551616 := by
  show (x.toUInt64 + y.toUInt64).toNat = _
  exact UInt64.toNat_add _ _
theorem uN_mul (x y : Int64) : uN (x * y) = (uN x * uN y) % 18446744073709551616 := by
  show (x.toUInt64 * y.toUInt64).toNat = _
  exact UInt64.toNat_mul _ _
theorem uN_shl (x : Int64) : uN (x <<< ((1 : Int32).toInt64 &&& 63)) = (2 * uN x) % 18446744073709551616 := by
  have h : (((1 : Int32).toInt64 &&& 63).toBitVec.smod 64).toNat = 1 := by decide
  show (x.toBitVec <<< (((1 : Int32).toInt64 &&& 63).toBitVec.smod 64).toNat).toNat = _
  rw [h, BitVec.toNat_shiftLeft, Nat.shiftLeft_eq, Nat.mul_comm]
  rfl
theorem uN_shr (x : Int64) (s : UInt64) : uN (x.toUInt64 >>> s).toInt64 = uN x / 2 ^ (s.toNat % 64) := by
  show (x.toUInt64 >>> s).toNat = _
  rw [UInt64.toNat_shiftRight, Nat.shiftRight_eq_div_pow]
  rfl
theorem uN_s32 (x : Int64) : uN (x.toUInt64 >>> ((32 : Int32).toInt64.toUInt64 &&& Int64.toUInt64 63)).toInt64 = uN x / 4294967296 := by
  have h : ((32 : Int32).toInt64.toUInt64 &&& Int64.toUInt64 63).toNat % 64 = 32 := by decide
  rw [uN_shr, h]
theorem uN_s63 (x : Int64) : uN (x.toUInt64 >>> ((63 : Int32).toInt64.toUInt64 &&& Int64.toUInt64 63)).toInt64 = uN x / 9223372036854775808 := by
  have h : ((63 : Int32).toInt64.toUInt64 &&& Int64.toUInt64 63).toNat % 64 = 63 := by decide
  rw [uN_shr, h]
theorem uN_lo (x : Int64) : uN (x &&& 4294967295) = uN x % 4294967296 := by
  show (x.toUInt64 &&& Int64.toUInt64 4294967295).toNat = _
  rw [UInt64.toNat_and]
  exact Nat.and_two_pow_sub_one_eq_mod _ 32
theorem uN_bit (x : Int64) : (x &&& 1) = 0 ↔ uN x % 2 = 0 := by
  have h : uN (x &&& 1) = uN x % 2 := by
    show (x.toUInt64 &&& Int64.toUInt64 1).toNat = _
    rw [UInt64.toNat_and]
    exact Nat.and_two_pow_sub_one_eq_mod _ 1
  rw [← h]
  exact ⟨fun z => by rw [z]; rfl, fun z => uN_inj (z.trans rfl)⟩
theorem uN_or {x y : Int64} (hy : uN y < 2) : uN ((x <<< ((1 : Int32).toInt64 &&& 63)) ||| y) = (2 * uN x) % 18446744073709551616 + uN y := by
  have h1 : uN ((x <<< ((1 : Int32).toInt64 &&& 63)) ||| y) = uN (x <<< ((1 : Int32).toInt64 &&& 63)) ||| uN y := UInt64.toNat_or _ _
  have h2 : (2 * uN x) % 18446744073709551616 = 2 ^ 1 * (uN x % 9223372036854775808) := by omega
  rw [h1, uN_shl, h2]
  exact (Nat.two_pow_add_eq_or_of_lt (i := 1) hy _).symm
theorem nat_xor {a : Nat} (h : a < 18446744073709551616) : a ^^^ 2 ^ 63 = (a + 9223372036854775808) % 18446744073709551616 := by
  have h1 : (a ^^^ 2 ^ 63) % 2 ^ 63 = a % 2 ^ 63 := by rw [Nat.xor_mod_two_pow, Nat.mod_self, Nat.xor_zero]
  have h2 : (a ^^^ 2 ^ 63) / 2 ^ 63 = (a / 2 ^ 63) ^^^ 1 := by rw [Nat.xor_div_two_pow, Nat.div_self (Nat.two_pow_pos 63)]
  have h3 : a / 2 ^ 63 = 0 ∨ a / 2 ^ 63 = 1 := by omega
  generalize a ^^^ 2 ^ 63 = t at h1 h2
  rcases h3 with h3 | h3
  · rw [h3] at h2
    have h2 : t / 2 ^ 63 = 1 := h2
    omega
  · rw [h3] at h2
    have h2 : t / 2 ^ 63 = 0 := h2
    omega
theorem uN_xor (x : Int64) : uN (x ^^^ (-9223372036854775808)) = (uN x + 9223372036854775808) % 18446744073709551616 := by
  rw [← nat_xor (uN_lt x)]
  exact UInt64.toNat_xor _ _
theorem uN_int (x : Int64) : x.toInt = if 2 * uN x < 18446744073709551616 then (uN x : Int) else (uN x : Int) - 18446744073709551616 := BitVec.toInt_eq_toNat_cond _
theorem uN_le (x y : Int64) : (x ^^^ (-9223372036854775808)) ≤ (y ^^^ (-9223372036854775808)) ↔ uN x ≤ uN y := by
  have hx := uN_lt x
  have hy := uN_lt y
  rw [Int64.le_iff_toInt_le, uN_int, uN_int, uN_xor, uN_xor]
  omega
theorem uN_sk (x : Int64) {k : Nat} (hk : k < 64) : uN (x.toUInt64 >>> ((nI k).toInt64.toUInt64 &&& Int64.toUInt64 63)).toInt64 = uN x / 2 ^ k := by
  have h : ((nI k).toInt64.toUInt64 &&& Int64.toUInt64 63).toNat % 64 = k := by
    rw [nI_l (by omega), UInt64.toNat_and]
    have e : (lN k).toUInt64.toNat = k % 2 ^ 64 := rfl
    have e2 : (Int64.toUInt64 63).toNat = 2 ^ 6 - 1 := by decide
    rw [e, e2, Nat.and_two_pow_sub_one_eq_mod]
    omega
  rw [uN_shr, h]
/-! ===== unsigned comparison by xor with the least ===== -/
theorem lN_bv (n : Nat) : (lN n).toBitVec = BitVec.ofNat 64 n := rfl
theorem lN_nat {n : Nat} (h : n < 2 ^ 64) : (lN n).toBitVec.toNat = n := by rw [lN_bv, BitVec.toNat_ofNat]; exact Nat.mod_eq_of_lt h
theorem lN_xor (a b : Nat) : lN a ^^^ lN b = lN (a ^^^ b) := by
  apply Int64.toBitVec_inj.mp; rw [Int64.toBitVec_xor, lN_bv, lN_bv, lN_bv]; apply BitVec.eq_of_getLsbD_eq; intro i hi; simp [BitVec.getLsbD_ofNat, Nat.testBit_xor, hi]
theorem lN_ti {m : Nat} (h : m < 2 ^ 64) : (lN m).toInt = if m < 2 ^ 63 then (m : Int) else (m : Int) - 2 ^ 64 := by
  have c := BitVec.toInt_eq_toNat_cond (lN m).toBitVec
  rw [lN_nat h] at c
  show (lN m).toBitVec.toInt = _
  rw [c]
  split <;> split <;> omega
theorem xor63 {x : Nat} (h : x < 2 ^ 63) : x ^^^ 2 ^ 63 = 2 ^ 63 + x := by
  apply Nat.eq_of_testBit_eq
  intro i
  rw [Nat.testBit_xor, Nat.testBit_two_pow]
  rcases Nat.lt_trichotomy i 63 with z | z | z
  · rw [Nat.testBit_two_pow_add_gt z, decide_eq_false (by omega)]; simp
  · subst z; rw [Nat.testBit_two_pow_add_eq]; simp
  · have hp : 2 ^ 64 ≤ 2 ^ i := Nat.pow_le_pow_right (by decide) z
    rw [Nat.testBit_lt_two_pow (show x < 2 ^ i by omega), Nat.testBit_lt_two_pow (show 2 ^ 63 + x < 2 ^ i by omega), decide_eq_false (by omega)]; rfl
theorem xorS {a : Nat} (h : a < 2 ^ 64) : (lN a ^^^ (-9223372036854775808)).toInt = (a : Int) - 2 ^ 63 := by
  rw [show (-9223372036854775808 : Int64) = lN (2 ^ 63) from by decide +kernel, lN_xor]
  rcases Nat.lt_or_ge a (2 ^ 63) with z | z
  · rw [xor63 z, lN_ti (by omega), if_neg (by omega)]; omega
  · obtain ⟨x, rfl⟩ : ∃ x, a = 2 ^ 63 + x := ⟨a - 2 ^ 63, by omega⟩
    rw [← xor63 (by omega), Nat.xor_assoc, Nat.xor_self, Nat.xor_zero, lN_ti (by omega), if_pos (by omega), xor63 (by omega)]; omega
theorem ultL {a b : Nat} (ha : a < 2 ^ 64) (hb : b < 2 ^ 64) : ((lN b ^^^ (-9223372036854775808)) ≤ (lN a ^^^ (-9223372036854775808))) ↔ b ≤ a := by
  rw [Int64.le_iff_toInt_le, xorS ha, xorS hb]; omega
/-! ===== Int64 masks of n low bits ===== -/
theorem cr_bits (W U M : BitVec 64) : ((W &&& U) &&& (U &&& (M ^^^ BitVec.allOnes 64))) = 0#64 ↔ (W &&& U) &&& M = W &&& U := by
  constructor
  · intro h
    apply BitVec.eq_of_getLsbD_eq
    intro i hi
    have e := congrArg (fun x => BitVec.getLsbD x i) h
    simp only [BitVec.getLsbD_and, BitVec.getLsbD_xor, BitVec.getLsbD_allOnes, BitVec.getLsbD_zero, hi, decide_true] at e ⊢
    revert e
    cases W.getLsbD i <;> cases U.getLsbD i <;> cases M.getLsbD i <;> decide
  · intro h
    apply BitVec.eq_of_getLsbD_eq
    intro i hi
    have e := congrArg (fun x => BitVec.getLsbD x i) h
    simp only [BitVec.getLsbD_and, BitVec.getLsbD_xor, BitVec.getLsbD_allOnes, BitVec.getLsbD_zero, hi, decide_true] at e ⊢
    revert e
    cases W.getLsbD i <;> cases U.getLsbD i <;> cases M.getLsbD i <;> decide
theorem cr_mask (w U m : Int64) (n : Nat) (hm : m.toBitVec.toNat = 2 ^ n - 1) : ((w &&& U) &&& (U &&& (m ^^^ (-1)))) = 0 ↔ (w &&& U).toBitVec.toNat < 2 ^ n := by
  have e0 : (-1 : Int64).toBitVec = BitVec.allOnes 64 := by decide
  have z0 : (0 : Int64).toBitVec = 0#64 := by decide
  rw [← Int64.toBitVec_inj, z0, Int64.toBitVec_and, Int64.toBitVec_and, Int64.toBitVec_and, Int64.toBitVec_xor, e0, cr_bits]
  generalize w.toBitVec &&& U.toBitVec = T
  rw [← BitVec.toNat_inj, BitVec.toNat_and, hm, Nat.and_two_pow_sub_one_eq_mod]
  constructor
  · intro h
    have t := Nat.mod_lt T.toNat (Nat.two_pow_pos n)
    rw [h] at t
    exact t
  · exact Nat.mod_eq_of_lt
theorem cr_shr (t : Int64) (x : UInt64) (n : Nat) (hx : x.toNat % 64 = n) : (t.toUInt64 >>> x).toInt64 = 0 ↔ t.toBitVec.toNat < 2 ^ n := by
  rw [← Int64.toBitVec_inj, ← BitVec.toNat_inj]
  show (t.toUInt64 >>> x).toNat = 0 ↔ t.toUInt64.toNat < 2 ^ n
  rw [UInt64.toNat_shiftRight, hx, Nat.shiftRight_eq_div_pow]
  constructor
  · intro h
    have d : t.toUInt64.toNat / 2 ^ n < 1 := by
      rw [h]
      decide
    have e := (Nat.div_lt_iff_lt_mul (Nat.two_pow_pos n)).mp d
    rw [Nat.one_mul] at e
    exact e
  · exact Nat.div_eq_of_lt
theorem cr_amt (s : Int64) : ∃ n, n < 64 ∧ s &&& 63 = lN n ∧ (s.toUInt64 &&& Int64.toUInt64 63).toNat % 64 = n := by
  have e : (s.toUInt64 &&& Int64.toUInt64 63).toNat = s.toUInt64.toNat % 2 ^ 6 := by
    rw [UInt64.toNat_and, show (Int64.toUInt64 63).toNat = 2 ^ 6 - 1 from by decide, Nat.and_two_pow_sub_one_eq_mod]
  refine ⟨s.toUInt64.toNat % 2 ^ 6, by omega, ?_, by omega⟩
  rw [← Int64.toBitVec_inj, ← BitVec.toNat_inj]
  show (s.toUInt64 &&& Int64.toUInt64 63).toNat = (BitVec.ofNat 64 (s.toUInt64.toNat % 2 ^ 6)).toNat
  rw [e, BitVec.toNat_ofNat]
  omega
/-! plain facts to paste, each family by itself; over the kit's nI, lN and upd -/
/-! ===== drawers: more things than places ===== -/
theorem fb_holes : ∀ (m n : Nat) (f : Nat → Nat), (∀ i, i < n → f i < m) → (∀ i j, i < j → j < n → f i ≠ f j) → n ≤ m := by
  intro m
  induction m with
  | zero =>
    intro n f h1 _
    rcases Nat.eq_zero_or_pos n with h | h
    · omega
    · exact absurd (h1 0 h) (Nat.not_lt_zero _)
  | succ m ih =>
    intro n f h1 h2
    by_cases hx : ∃ i, i < n ∧ f i = m
    · obtain ⟨a, ha, hfa⟩ := hx
      have hg := ih (n - 1) (fun i => if i < a then f i else f (i + 1)) (by
        intro i hi
        by_cases q : i < a
        · simp only [if_pos q]
          have b1 := h1 i (by omega)
          have b2 := h2 i a q ha
          omega
        · simp only [if_neg q]
          have b1 := h1 (i + 1) (by omega)
          have b2 := h2 a (i + 1) (by omega) (by omega)
          omega) (by
        intro i j hij hj
        by_cases q : i < a
        · by_cases r : j < a
          · simp only [if_pos q, if_pos r]
            exact h2 i j hij (by omega)
          · simp only [if_pos q, if_neg r]
            exact h2 i (j + 1) (by omega) (by omega)
        · have r : ¬ j < a := by omega
          simp only [if_neg q, if_neg r]
          exact h2 (i + 1) (j + 1) (by omega) (by omega))
      omega
    · have hg := ih n f (fun i hi => by
        have b1 := h1 i hi
        have b2 : f i ≠ m := fun e => hx ⟨i, hi, e⟩
        omega) h2
      omega
/-- two of them in one place -/
theorem fb_twice {m n : Nat} {f : Nat → Nat} (h : ∀ i, i < n → f i < m) (hm : m < n) : ∃ i j, i < j ∧ j < n ∧ f i = f j := by
  refine Classical.byContradiction fun hx => ?_
  have := fb_holes m n f h (fun i j hij hj e => hx ⟨i, j, hij, hj, e⟩)
  omega
/-- as many as places, none twice: each place is taken -/
theorem fb_onto {n : Nat} {f : Nat → Nat} (h : ∀ i, i < n → f i < n) (h2 : ∀ i j, i < j → j < n → f i ≠ f j) {y : Nat} (hy : y < n) : ∃ i, i < n ∧ f i = y := by
  refine Classical.byContradiction fun hx => ?_
  have hne : ∀ i, i < n → f i ≠ y := fun i hi e => hx ⟨i, hi, e⟩
  have := fb_holes (n - 1) n (fun i => if f i < y then f i else f i - 1) (by
    intro i hi
    have b1 := h i hi
    have b2 := hne i hi
    by_cases q : f i < y
    · simp only [if_pos q]; omega
    · simp only [if_neg q]; omega) (by
    intro i j hij hj
    have b1 := hne i (by omega)
    have b2 := hne j hj
    have b3 := h2 i j hij hj
    by_cases q : f i < y
    · by_cases r : f j < y
      · simp only [if_pos q, if_pos r]; exact b3
      · simp only [if_pos q, if_neg r]; omega
    · by_cases r : f j < y
      · simp only [if_neg q, if_pos r]; omega
      · simp only [if_neg q, if_neg r]; omega)
  omega
/-! ===== how many places have a property ===== -/
def fb_ct (p : Nat → Bool) : Nat → Nat
  | 0 => 0
  | n + 1 => fb_ct p n + (if p n then 1 else 0)
theorem fb_ct_succ (p : Nat → Bool) (n : Nat) : fb_ct p (n + 1) = fb_ct p n + (if p n then 1 else 0) := rfl
theorem fb_ct_le (p : Nat → Bool) : ∀ n, fb_ct p n ≤ n
  | 0 => Nat.le_refl _
  | n + 1 => by
    have h := fb_ct_le p n
    rw [fb_ct_succ]
    split <;> omega
theorem fb_ct_step (p : Nat → Bool) (m : Nat) : ∀ n, fb_ct p m ≤ fb_ct p (m + n)
  | 0 => Nat.le_refl _
  | n + 1 => by
    have h := fb_ct_step p m n
    show fb_ct p m ≤ fb_ct p (m + n + 1)
    rw [fb_ct_succ]
    omega
theorem fb_ct_mono (p : Nat → Bool) {m n : Nat} (h : m ≤ n) : fb_ct p m ≤ fb_ct p n := by
  have := fb_ct_step p m (n - m)
  rwa [Nat.add_sub_cancel' h] at this
theorem fb_ct_cong {p q : Nat → Bool} : ∀ {n : Nat}, (∀ k, k < n → p k = q k) → fb_ct p n = fb_ct q n
  | 0, _ => rfl
  | n + 1, h => by
    rw [fb_ct_succ, fb_ct_succ, fb_ct_cong (fun k hk => h k (by omega)), h n (by omega)]
/-- one place changed -/
theorem fb_ct_out (p : Nat → Bool) (b : Bool) {i n : Nat} (h : n ≤ i) : fb_ct (fun k => if k = i then b else p k) n = fb_ct p n :=
  fb_ct_cong fun k hk => if_neg (by omega)
theorem fb_ct_upd (p : Nat → Bool) (b : Bool) {i : Nat} : ∀ {n : Nat}, i < n → fb_ct (fun k => if k = i then b else p k) n + (if p i then 1 else 0) = fb_ct p n + (if b then 1 else 0)
  | 0, h => absurd h (Nat.not_lt_zero i)
  | n + 1, h => by
    rw [fb_ct_succ, fb_ct_succ]
    rcases Nat.lt_or_ge i n with q | q
    · have := fb_ct_upd p b q
      have e : (if n = i then b else p n) = p n := if_neg (by omega)
      rw [e]
      omega
    · have e : i = n := by omega
      subst e
      rw [fb_ct_out p b (Nat.le_refl _)]
      simp only [if_true]
      omega
theorem fb_ct_sub {p q : Nat → Bool} : ∀ {n : Nat}, (∀ k, k < n → p k = true → q k = true) → fb_ct p n ≤ fb_ct q n
  | 0, _ => Nat.le_refl _
  | n + 1, h => by
    have h1 := fb_ct_sub (n := n) (p := p) (q := q) (fun k hk => h k (by omega))
    have h2 := h n (by omega)
    rw [fb_ct_succ, fb_ct_succ]
    cases hp : p n <;> cases hq : q n <;> simp_all <;> omega
theorem fb_ct_or {p q : Nat → Bool} : ∀ {n : Nat}, (∀ k, k < n → ¬ (p k = true ∧ q k = true)) → fb_ct (fun k => p k || q k) n = fb_ct p n + fb_ct q n
  | 0, _ => rfl
  | n + 1, h => by
    have h1 := fb_ct_or (n := n) (p := p) (q := q) (fun k hk => h k (by omega))
    have h2 := h n (by omega)
    rw [fb_ct_succ, fb_ct_succ, fb_ct_succ, h1]
    cases hp : p n <;> cases hq : q n <;> simp_all <;> omega
theorem fb_ct_not (p : Nat → Bool) : ∀ n, fb_ct p n + fb_ct (fun k => !p k) n = n
  | 0 => rfl
  | n + 1 => by
    have h := fb_ct_not p n
    rw [fb_ct_succ, fb_ct_succ]
    cases p n <;> simp <;> omega
theorem fb_ct_split (p : Nat → Bool) (m : Nat) : ∀ n, fb_ct p (m + n) = fb_ct p m + fb_ct (fun k => p (m + k)) n
  | 0 => rfl
  | n + 1 => by
    have h := fb_ct_split p m n
    show fb_ct p (m + n + 1) = _
    rw [fb_ct_succ, fb_ct_succ, h, Nat.add_assoc]
theorem fb_ct_zero {p : Nat → Bool} : ∀ {n : Nat}, fb_ct p n = 0 ↔ ∀ k, k < n → p k = false
  | 0 => ⟨fun _ k hk => absurd hk (Nat.not_lt_zero k), fun _ => rfl⟩
  | n + 1 => by
    have h := fb_ct_zero (p := p) (n := n)
    rw [fb_ct_succ]
    constructor
    · intro e k hk
      have e1 : fb_ct p n = 0 := by omega
      rcases Nat.lt_or_ge k n with q | q
      · exact h.mp e1 k q
      · have ek : k = n := by omega
        subst ek
        cases hp : p k
        · rfl
        · simp [hp] at e
    · intro a
      rw [h.mpr (fun k hk => a k (by omega)), a n (by omega)]
      rfl
theorem fb_ct_pos {p : Nat → Bool} {n : Nat} : 0 < fb_ct p n ↔ ∃ k, k < n ∧ p k = true := by
  constructor
  · intro h
    refine Classical.byContradiction fun hx => ?_
    have := fb_ct_zero.mpr (fun k hk => by
      cases hp : p k
      · rfl
      · exact absurd ⟨k, hk, hp⟩ hx : ∀ k, k < n → p k = false)
    omega
  · rintro ⟨k, hk, hp⟩
    rcases Nat.eq_zero_or_pos (fb_ct p n) with e | e
    · have := fb_ct_zero.mp e k hk
      rw [this] at hp
      cases hp
    · exact e
theorem fb_ct_all {p : Nat → Bool} {n : Nat} : fb_ct p n = n ↔ ∀ k, k < n → p k = true := by
  have h := fb_ct_not p n
  constructor
  · intro e k hk
    have z : fb_ct (fun k => !p k) n = 0 := by omega
    have := fb_ct_zero.mp z k hk
    cases hp : p k
    · simp [hp] at this
    · rfl
  · intro a
    have z : fb_ct (fun k => !p k) n = 0 := fb_ct_zero.mpr (fun k hk => by simp [a k hk])
    omega
/-- the k-th place with the property -/
theorem fb_ct_kth {p : Nat → Bool} {k : Nat} : ∀ {n : Nat}, k < fb_ct p n → ∃ i, i < n ∧ p i = true ∧ fb_ct p i = k
  | 0, h => absurd h (Nat.not_lt_zero k)
  | n + 1, h => by
    rcases Nat.lt_or_ge k (fb_ct p n) with q | q
    · obtain ⟨i, h1, h2⟩ := fb_ct_kth q
      exact ⟨i, by omega, h2⟩
    · rw [fb_ct_succ] at h
      cases hp : p n
      · simp [hp] at h; omega
      · simp [hp] at h
        exact ⟨n, by omega, hp, by omega⟩
theorem fb_ct_kth_one {p : Nat → Bool} {i j : Nat} (hi : p i = true) (hj : p j = true) (e : fb_ct p i = fb_ct p j) : i = j := by
  have key : ∀ a b : Nat, a < b → p a = true → fb_ct p a < fb_ct p b := by
    intro a b hab ha
    have h := fb_ct_mono p (show a + 1 ≤ b from hab)
    rw [fb_ct_succ, ha] at h
    simp at h
    omega
  rcases Nat.lt_trichotomy i j with q | q | q
  · have := key i j q hi; omega
  · exact q
  · have := key j i q hj; omega
/-! ===== sums over a range: one place changed, parts, bounds ===== -/
def fb_sm (f : Nat → Nat) : Nat → Nat
  | 0 => 0
  | n + 1 => fb_sm f n + f n
theorem fb_sm_succ (f : Nat → Nat) (n : Nat) : fb_sm f (n + 1) = fb_sm f n + f n := rfl
theorem fb_sm_cong {f g : Nat → Nat} : ∀ {n : Nat}, (∀ k, k < n → f k = g k) → fb_sm f n = fb_sm g n
  | 0, _ => rfl
  | n + 1, h => by rw [fb_sm_succ, fb_sm_succ, fb_sm_cong (fun k hk => h k (by omega)), h n (by omega)]
theorem fb_sm_out (f : Nat → Nat) (v : Nat) {i n : Nat} (h : n ≤ i) : fb_sm (fun k => if k = i then v else f k) n = fb_sm f n :=
  fb_sm_cong fun k hk => if_neg (by omega)
theorem fb_sm_upd (f : Nat → Nat) (v : Nat) {i : Nat} : ∀ {n : Nat}, i < n → fb_sm (fun k => if k = i then v else f k) n + f i = fb_sm f n + v
  | 0, h => absurd h (Nat.not_lt_zero i)
  | n + 1, h => by
    rw [fb_sm_succ, fb_sm_succ]
    rcases Nat.lt_or_ge i n with q | q
    · have := fb_sm_upd f v q
      have e : (if n = i then v else f n) = f n := if_neg (by omega)
      rw [e]
      omega
    · have e : i = n := by omega
      subst e
      rw [fb_sm_out f v (Nat.le_refl _)]
      simp only [if_true]
      omega
theorem fb_sm_add (f g : Nat → Nat) : ∀ n, fb_sm (fun k => f k + g k) n = fb_sm f n + fb_sm g n
  | 0 => rfl
  | n + 1 => by
    have h := fb_sm_add f g n
    rw [fb_sm_succ, fb_sm_succ, fb_sm_succ, h]
    omega
theorem fb_sm_le {f g : Nat → Nat} : ∀ {n : Nat}, (∀ k, k < n → f k ≤ g k) → fb_sm f n ≤ fb_sm g n
  | 0, _ => Nat.le_refl _
  | n + 1, h => by
    have h1 := fb_sm_le (n := n) (f := f) (g := g) (fun k hk => h k (by omega))
    have h2 := h n (by omega)
    rw [fb_sm_succ, fb_sm_succ]
    omega
theorem fb_sm_const (c : Nat) : ∀ n, fb_sm (fun _ => c) n = n * c
  | 0 => by rw [Nat.zero_mul]; rfl
  | n + 1 => by rw [fb_sm_succ, fb_sm_const c n, Nat.succ_mul]
theorem fb_sm_bound {f : Nat → Nat} {c n : Nat} (h : ∀ k, k < n → f k ≤ c) : fb_sm f n ≤ n * c := by
  rw [← fb_sm_const c n]
  exact fb_sm_le h
theorem fb_sm_mono (f : Nat → Nat) (m : Nat) : ∀ n, fb_sm f m ≤ fb_sm f (m + n)
  | 0 => Nat.le_refl _
  | n + 1 => by
    have h := fb_sm_mono f m n
    show fb_sm f m ≤ fb_sm f (m + n + 1)
    rw [fb_sm_succ]
    omega
theorem fb_sm_part (f : Nat → Nat) {i n : Nat} (h : i < n) : fb_sm f i + f i ≤ fb_sm f n := by
  have := fb_sm_mono f (i + 1) (n - (i + 1))
  rw [fb_sm_succ, show i + 1 + (n - (i + 1)) = n by omega] at this
  exact this
theorem fb_sm_split (f : Nat → Nat) (m : Nat) : ∀ n, fb_sm f (m + n) = fb_sm f m + fb_sm (fun k => f (m + k)) n
  | 0 => rfl
  | n + 1 => by
    have h := fb_sm_split f m n
    show fb_sm f (m + n + 1) = _
    rw [fb_sm_succ, fb_sm_succ, h, Nat.add_assoc]
theorem fb_sm_zero {f : Nat → Nat} {n : Nat} (h : fb_sm f n = 0) : ∀ k, k < n → f k = 0 := fun k hk => by
  have := fb_sm_part f hk
  omega
/-- the same over whole numbers -/
def fb_si (f : Nat → Int) : Nat → Int
  | 0 => 0
  | n + 1 => fb_si f n + f n
theorem fb_si_succ (f : Nat → Int) (n : Nat) : fb_si f (n + 1) = fb_si f n + f n := rfl
theorem fb_si_cong {f g : Nat → Int} : ∀ {n : Nat}, (∀ k, k < n → f k = g k) → fb_si f n = fb_si g n
  | 0, _ => rfl
  | n + 1, h => by rw [fb_si_succ, fb_si_succ, fb_si_cong (fun k hk => h k (by omega)), h n (by omega)]
theorem fb_si_out (f : Nat → Int) (v : Int) {i n : Nat} (h : n ≤ i) : fb_si (fun k => if k = i then v else f k) n = fb_si f n :=
  fb_si_cong fun k hk => if_neg (by omega)
theorem fb_si_upd (f : Nat → Int) (v : Int) {i : Nat} : ∀ {n : Nat}, i < n → fb_si (fun k => if k = i then v else f k) n = fb_si f n - f i + v
  | 0, h => absurd h (Nat.not_lt_zero i)
  | n + 1, h => by
    rw [fb_si_succ, fb_si_succ]
    rcases Nat.lt_or_ge i n with q | q
    · have := fb_si_upd f v q
      have e : (if n = i then v else f n) = f n := if_neg (by omega)
      rw [e]
      omega
    · have e : i = n := by omega
      subst e
      rw [fb_si_out f v (Nat.le_refl _)]
      simp only [if_true]
      omega
theorem fb_si_add (f g : Nat → Int) : ∀ n, fb_si (fun k => f k + g k) n = fb_si f n + fb_si g n
  | 0 => rfl
  | n + 1 => by
    have h := fb_si_add f g n
    rw [fb_si_succ, fb_si_succ, fb_si_succ, h]
    omega
theorem fb_si_sub (f g : Nat → Int) : ∀ n, fb_si (fun k => f k - g k) n = fb_si f n - fb_si g n
  | 0 => rfl
  | n + 1 => by
    have h := fb_si_sub f g n
    rw [fb_si_succ, fb_si_succ, fb_si_succ, h]
    omega
theorem fb_si_mul (c : Int) (f : Nat → Int) : ∀ n, fb_si (fun k => c * f k) n = c * fb_si f n
  | 0 => (Int.mul_zero c).symm
  | n + 1 => by
    have h := fb_si_mul c f n
    rw [fb_si_succ, fb_si_succ, h, Int.mul_add]
theorem fb_si_split (f : Nat → Int) (m : Nat) : ∀ n, fb_si f (m + n) = fb_si f m + fb_si (fun k => f (m + k)) n
  | 0 => (Int.add_zero _).symm
  | n + 1 => by
    have h := fb_si_split f m n
    show fb_si f (m + n + 1) = _
    rw [fb_si_succ, fb_si_succ, h, Int.add_assoc]
theorem fb_si_nat (f : Nat → Nat) : ∀ n, fb_si (fun k => (f k : Int)) n = (fb_sm f n : Int)
  | 0 => rfl
  | n + 1 => by
    have h := fb_si_nat f n
    rw [fb_si_succ, fb_sm_succ, h]
    omega
theorem fb_si_bound {f : Nat → Int} {c : Int} (hc : 0 ≤ c) : ∀ {n : Nat}, (∀ k, k < n → -c ≤ f k ∧ f k ≤ c) → -(n * c) ≤ fb_si f n ∧ fb_si f n ≤ n * c
  | 0, _ => by simp [fb_si]
  | n + 1, h => by
    have h1 := fb_si_bound (n := n) (f := f) hc (fun k hk => h k (by omega))
    have h2 := h n (by omega)
    have e : ((n + 1 : Nat) : Int) * c = n * c + c := by rw [Int.natCast_add, Int.add_mul]; simp
    rw [fb_si_succ, e]
    omega
/-! ===== bits of a long that isn't negative ===== -/
theorem fb_andL (a b : Nat) : lN a &&& lN b = lN (a &&& b) := by
  apply Int64.toBitVec_inj.1
  show BitVec.ofNat 64 a &&& BitVec.ofNat 64 b = BitVec.ofNat 64 (a &&& b)
  apply BitVec.eq_of_getLsbD_eq
  intro i hi
  simp [hi]
theorem fb_orL (a b : Nat) : lN a ||| lN b = lN (a ||| b) := by
  apply Int64.toBitVec_inj.1
  show BitVec.ofNat 64 a ||| BitVec.ofNat 64 b = BitVec.ofNat 64 (a ||| b)
  apply BitVec.eq_of_getLsbD_eq
  intro i hi
  simp [hi]
theorem fb_xorL (a b : Nat) : lN a ^^^ lN b = lN (a ^^^ b) := by
  apply Int64.toBitVec_inj.1
  show BitVec.ofNat 64 a ^^^ BitVec.ofNat 64 b = BitVec.ofNat 64 (a ^^^ b)
  apply BitVec.eq_of_getLsbD_eq
  intro i hi
  simp [hi]
theorem fb_xorI (a b : Nat) : nI a ^^^ nI b = nI (a ^^^ b) := by
  apply Int32.toBitVec_inj.1
  show BitVec.ofNat 32 a ^^^ BitVec.ofNat 32 b = BitVec.ofNat 32 (a ^^^ b)
  apply BitVec.eq_of_getLsbD_eq
  intro i hi
  simp [hi]
theorem fb_maskL (n k : Nat) : lN n &&& lN (2 ^ k - 1) = lN (n % 2 ^ k) := by rw [fb_andL, Nat.and_two_pow_sub_one_eq_mod]
theorem fb_or_sumL {a k : Nat} (b : Nat) (h : a < 2 ^ k) : lN (2 ^ k * b) ||| lN a = lN (2 ^ k * b + a) := by rw [fb_orL, Nat.two_pow_add_eq_or_of_lt h]
theorem fb_lN_inj {a b : Nat} (ha : a < 2 ^ 63) (hb : b < 2 ^ 63) : lN a = lN b ↔ a = b := by
  constructor
  · intro h
    have h1 : (BitVec.ofNat 64 a).toNat = (BitVec.ofNat 64 b).toNat := congrArg (fun x : Int64 => x.toBitVec.toNat) h
    rw [BitVec.toNat_ofNat, BitVec.toNat_ofNat, Nat.mod_eq_of_lt (by omega), Nat.mod_eq_of_lt (by omega)] at h1
    exact h1
  · rintro rfl; rfl
theorem fb_bit_nat (n j : Nat) : n &&& 2 ^ j = 0 ↔ n.testBit j = false := by
  constructor
  · intro h
    have h1 : (n &&& 2 ^ j).testBit j = false := by rw [h]; simp
    rw [Nat.testBit_and] at h1
    simpa using h1
  · intro h
    apply Nat.eq_of_testBit_eq
    intro i
    rw [Nat.testBit_and]
    by_cases hi : j = i
    · subst hi; simp [h]
    · first | (simp [Nat.testBit_two_pow, hi]; done) | (simp [Nat.testBit_two_pow_of_ne hi]; done)
/-- one bit of a long -/
theorem fb_bitL {n j : Nat} (hj : j < 63) : lN n &&& lN (2 ^ j) = 0 ↔ n.testBit j = false := by
  have h2 : (2 : Nat) ^ j < 2 ^ 63 := Nat.pow_lt_pow_right (by decide) hj
  have hle : n &&& 2 ^ j ≤ 2 ^ j := Nat.and_le_right
  rw [fb_andL, ← fb_bit_nat, show (0 : Int64) = lN 0 from rfl]
  exact fb_lN_inj (by omega) (by decide)
/-- a bit set, a bit taken off -/
theorem fb_bit_set (n j i : Nat) : (n ||| 2 ^ j).testBit i = (n.testBit i || decide (i = j)) := by
  rw [Nat.testBit_or]
  by_cases h : j = i
  · subst h; simp
  · have h2 : ¬ i = j := fun e => h e.symm
    first | (simp [Nat.testBit_two_pow, h, h2]; done) | (simp [Nat.testBit_two_pow_of_ne h, h2]; done)
theorem fb_bit_flip (n j i : Nat) : (n ^^^ 2 ^ j).testBit i = (n.testBit i ^^ decide (i = j)) := by
  rw [Nat.testBit_xor]
  by_cases h : j = i
  · subst h; simp
  · have h2 : ¬ i = j := fun e => h e.symm
    first | (simp [Nat.testBit_two_pow, h, h2]; done) | (simp [Nat.testBit_two_pow_of_ne h, h2]; done)
/-! ===== a stretch of an array written over by a function ===== -/
def fb_put {α : Type} (f g : Nat → α) (a n : Nat) : Nat → α := fun k => if a ≤ k ∧ k < a + n then g (k - a) else f k
theorem fb_put_0 {α : Type} (f g : Nat → α) (a : Nat) : fb_put f g a 0 = f := funext fun k => if_neg (by omega)
theorem fb_put_in {α : Type} {f g : Nat → α} {a n k : Nat} (h1 : a ≤ k) (h2 : k < a + n) : fb_put f g a n k = g (k - a) := if_pos ⟨h1, h2⟩
theorem fb_put_out {α : Type} {f g : Nat → α} {a n k : Nat} (h : k < a ∨ a + n ≤ k) : fb_put f g a n k = f k := if_neg (by omega)
theorem fb_put_succ (f g : Nat → Int32) (a n : Nat) : upd (fb_put f g a n) (a + n) (g n) = fb_put f g a (n + 1) := by
  funext k
  by_cases h : k = a + n
  · subst h
    simp [upd, fb_put]
  · by_cases h1 : a ≤ k ∧ k < a + n
    · have h2 : a ≤ k ∧ k < a + (n + 1) := by omega
      simp only [upd, fb_put, if_neg h, if_pos h1, if_pos h2]
    · have h2 : ¬ (a ≤ k ∧ k < a + (n + 1)) := by omega
      simp only [upd, fb_put, if_neg h, if_neg h1, if_neg h2]
/-- .. from the far end down -/
theorem fb_put_down (f g : Nat → Int32) {a n m : Nat} (h : m < n) : upd (fb_put f (fun k => g (k + (m + 1))) (a + (m + 1)) (n - (m + 1))) (a + m) (g m) = fb_put f (fun k => g (k + m)) (a + m) (n - m) := by
  funext k
  by_cases h0 : k = a + m
  · subst h0
    simp only [upd, if_true]
    rw [fb_put_in (by omega) (by omega)]
    exact congrArg g (by omega)
  · simp only [upd, if_neg h0]
    by_cases h1 : a + (m + 1) ≤ k ∧ k < a + (m + 1) + (n - (m + 1))
    · rw [fb_put_in h1.1 h1.2, fb_put_in (by omega) (by omega)]
      exact congrArg g (by omega)
    · rw [fb_put_out (by omega), fb_put_out (by omega)]
theorem fb_put_cong {α : Type} {f f2 g g2 : Nat → α} {a n : Nat} (hf : ∀ k, (k < a ∨ a + n ≤ k) → f k = f2 k) (hg : ∀ k, k < n → g k = g2 k) : fb_put f g a n = fb_put f2 g2 a n := by
  funext k
  by_cases h : a ≤ k ∧ k < a + n
  · rw [fb_put_in h.1 h.2, fb_put_in h.1 h.2, hg _ (by omega)]
  · rw [fb_put_out (by omega), fb_put_out (by omega), hf _ (by omega)]
/-! ===== the least, the first, the best so far; that there is one alone ===== -/
theorem fb_first {p : Nat → Prop} [DecidablePred p] : ∀ {n : Nat}, (∃ i, i < n ∧ p i) → ∃ i, i < n ∧ p i ∧ ∀ j, j < i → ¬ p j
  | 0, h => by obtain ⟨i, hi, -⟩ := h; exact absurd hi (Nat.not_lt_zero i)
  | n + 1, h => by
    by_cases q : ∃ i, i < n ∧ p i
    · obtain ⟨i, h1, h2⟩ := fb_first q
      exact ⟨i, by omega, h2⟩
    · obtain ⟨i, h1, h2⟩ := h
      have e : i = n := by
        rcases Nat.lt_or_ge i n with r | r
        · exact absurd ⟨i, r, h2⟩ q
        · omega
      subst e
      exact ⟨i, by omega, h2, fun j hj hp => q ⟨j, hj, hp⟩⟩
theorem fb_first_one {p : Nat → Prop} {i j : Nat} (hi : p i) (hi2 : ∀ k, k < i → ¬ p k) (hj : p j) (hj2 : ∀ k, k < j → ¬ p k) : i = j := by
  rcases Nat.lt_trichotomy i j with q | q | q
  · exact absurd hi (hj2 i q)
  · exact q
  · exact absurd hj (hi2 j q)
theorem fb_last {p : Nat → Prop} [DecidablePred p] : ∀ {n : Nat}, (∃ i, i < n ∧ p i) → ∃ i, i < n ∧ p i ∧ ∀ j, i < j → j < n → ¬ p j
  | 0, h => by obtain ⟨i, hi, -⟩ := h; exact absurd hi (Nat.not_lt_zero i)
  | n + 1, h => by
    by_cases q : p n
    · exact ⟨n, by omega, q, fun j h1 h2 => by omega⟩
    · obtain ⟨i, h1, h2⟩ := h
      have hi : i < n := by
        rcases Nat.lt_or_ge i n with r | r
        · exact r
        · have e : i = n := by omega
          subst e
          exact absurd h2 q
      obtain ⟨i2, a1, a2, a3⟩ := fb_last (n := n) ⟨i, hi, h2⟩
      refine ⟨i2, by omega, a2, fun j b1 b2 => ?_⟩
      rcases Nat.lt_or_ge j n with r | r
      · exact a3 j b1 r
      · have e : j = n := by omega
        subst e
        exact q
/-- the first greatest -/
theorem fb_best (f : Nat → Int) : ∀ {n : Nat}, 0 < n → ∃ i, i < n ∧ (∀ j, j < n → f j ≤ f i) ∧ ∀ j, j < i → f j < f i
  | 0, h => absurd h (Nat.lt_irrefl 0)
  | 1, _ => ⟨0, by omega, fun j hj => by have e : j = 0 := by omega
                                         subst e; exact Int.le_refl _, fun j hj => absurd hj (Nat.not_lt_zero j)⟩
  | n + 2, _ => by
    obtain ⟨i, h1, h2, h3⟩ := fb_best f (n := n + 1) (by omega)
    by_cases q : f i < f (n + 1)
    · refine ⟨n + 1, by omega, fun j hj => ?_, fun j hj => ?_⟩
      · rcases Nat.lt_or_ge j (n + 1) with r | r
        · have := h2 j r; omega
        · have e : j = n + 1 := by omega
          subst e; exact Int.le_refl _
      · have := h2 j hj; omega
    · refine ⟨i, by omega, fun j hj => ?_, h3⟩
      rcases Nat.lt_or_ge j (n + 1) with r | r
      · exact h2 j r
      · have e : j = n + 1 := by omega
        subst e; omega
theorem fb_best_one {f : Nat → Int} {n i j : Nat} (hi : i < n) (hi2 : ∀ k, k < n → f k ≤ f i) (hi3 : ∀ k, k < i → f k < f i) (hj : j < n) (hj2 : ∀ k, k < n → f k ≤ f j) (hj3 : ∀ k, k < j → f k < f j) : i = j := by
  rcases Nat.lt_trichotomy i j with q | q | q
  · have a := hj3 i q
    have b := hi2 j hj
    omega
  · exact q
  · have a := hi3 j q
    have b := hj2 i hi
    omega
/-- the first least -/
theorem fb_low (f : Nat → Int) {n : Nat} (h : 0 < n) : ∃ i, i < n ∧ (∀ j, j < n → f i ≤ f j) ∧ ∀ j, j < i → f i < f j := by
  obtain ⟨i, h1, h2, h3⟩ := fb_best (fun k => -f k) h
  exact ⟨i, h1, fun j hj => by have := h2 j hj; omega, fun j hj => by have := h3 j hj; omega⟩
/-! ===== signed ints as whole numbers, within bounds ===== -/
theorem fb_rng (x : Int32) : -2147483648 ≤ x.toInt ∧ x.toInt < 2147483648 := by
  have h1 := Int32.le_toInt x
  have h2 := Int32.toInt_lt x
  omega
theorem fb_bmod {z : Int} (h1 : -2147483648 ≤ z) (h2 : z < 2147483648) : z.bmod (2 ^ 32) = z := by
  rw [Int.bmod_eq_of_le (by omega) (by omega)]
theorem fb_addI {x y : Int32} (h1 : -2147483648 ≤ x.toInt + y.toInt) (h2 : x.toInt + y.toInt < 2147483648) : (x + y).toInt = x.toInt + y.toInt := by
  rw [Int32.toInt_add, fb_bmod h1 h2]
theorem fb_subI {x y : Int32} (h1 : -2147483648 ≤ x.toInt - y.toInt) (h2 : x.toInt - y.toInt < 2147483648) : (x - y).toInt = x.toInt - y.toInt := by
  rw [Int32.toInt_sub, fb_bmod h1 h2]
theorem fb_mulI {x y : Int32} (h1 : -2147483648 ≤ x.toInt * y.toInt) (h2 : x.toInt * y.toInt < 2147483648) : (x * y).toInt = x.toInt * y.toInt := by
  rw [Int32.toInt_mul, fb_bmod h1 h2]
theorem fb_negI {x : Int32} (h : x.toInt ≠ -2147483648) : (-x).toInt = -x.toInt := by
  have := fb_rng x
  rw [Int32.toInt_neg, fb_bmod (by omega) (by omega)]
theorem fb_ofI {z : Int} (h1 : -2147483648 ≤ z) (h2 : z < 2147483648) : (Int32.ofInt z).toInt = z := by
  rw [Int32.toInt_ofInt, fb_bmod h1 h2]
theorem fb_asI (x : Int32) : Int32.ofInt x.toInt = x := Int32.ofInt_toInt x
theorem fb_rngL (x : Int64) : -9223372036854775808 ≤ x.toInt ∧ x.toInt < 9223372036854775808 := by
  have h1 := Int64.le_toInt x
  have h2 := Int64.toInt_lt x
  omega
theorem fb_bmodL {z : Int} (h1 : -9223372036854775808 ≤ z) (h2 : z < 9223372036854775808) : z.bmod (2 ^ 64) = z := by
  rw [Int.bmod_eq_of_le (by omega) (by omega)]
theorem fb_addL {x y : Int64} (h1 : -9223372036854775808 ≤ x.toInt + y.toInt) (h2 : x.toInt + y.toInt < 9223372036854775808) : (x + y).toInt = x.toInt + y.toInt := by
  rw [Int64.toInt_add, fb_bmodL h1 h2]
theorem fb_subL {x y : Int64} (h1 : -9223372036854775808 ≤ x.toInt - y.toInt) (h2 : x.toInt - y.toInt < 9223372036854775808) : (x - y).toInt = x.toInt - y.toInt := by
  rw [Int64.toInt_sub, fb_bmodL h1 h2]
theorem fb_mulL {x y : Int64} (h1 : -9223372036854775808 ≤ x.toInt * y.toInt) (h2 : x.toInt * y.toInt < 9223372036854775808) : (x * y).toInt = x.toInt * y.toInt := by
  rw [Int64.toInt_mul, fb_bmodL h1 h2]
/-! ===== cuts of what is narrow already ===== -/
theorem fb_byte {x : Int32} (h1 : -128 ≤ x.toInt) (h2 : x.toInt < 128) : x.toInt8.toInt32 = x := by
  apply Int32.toInt_inj.1
  rw [Int8.toInt_toInt32, Int32.toInt_toInt8, Int.bmod_eq_of_le (by omega) (by omega)]
theorem fb_short {x : Int32} (h1 : -32768 ≤ x.toInt) (h2 : x.toInt < 32768) : x.toInt16.toInt32 = x := by
  apply Int32.toInt_inj.1
  rw [Int16.toInt_toInt32, Int32.toInt_toInt16, Int.bmod_eq_of_le (by omega) (by omega)]
theorem fb_byte_rng (x : Int32) : -128 ≤ x.toInt8.toInt32.toInt ∧ x.toInt8.toInt32.toInt < 128 := by
  rw [Int8.toInt_toInt32]
  have h1 := Int8.le_toInt x.toInt8
  have h2 := Int8.toInt_lt x.toInt8
  omega
theorem fb_short_rng (x : Int32) : -32768 ≤ x.toInt16.toInt32.toInt ∧ x.toInt16.toInt32.toInt < 32768 := by
  rw [Int16.toInt_toInt32]
  have h1 := Int16.le_toInt x.toInt16
  have h2 := Int16.toInt_lt x.toInt16
  omega
theorem fb_byte_twice (x : Int32) : x.toInt8.toInt32.toInt8.toInt32 = x.toInt8.toInt32 := fb_byte (fb_byte_rng x).1 (fb_byte_rng x).2
theorem fb_short_twice (x : Int32) : x.toInt16.toInt32.toInt16.toInt32 = x.toInt16.toInt32 := fb_short (fb_short_rng x).1 (fb_short_rng x).2
theorem fb_char {n : Nat} (h : n < 65536) : (nI n).toUInt32.toUInt16.toUInt32.toInt32 = nI n := by
  apply Int32.toBitVec_inj.1
  apply BitVec.eq_of_toNat_eq
  have e1 : (nI n).toBitVec.toNat = n := by
    show (BitVec.ofNat 32 n).toNat = n
    rw [BitVec.toNat_ofNat, Nat.mod_eq_of_lt (by omega)]
  have e2 : ((nI n).toUInt32.toUInt16.toUInt32).toNat = n := by
    rw [UInt16.toNat_toUInt32, UInt32.toNat_toUInt16]
    show (nI n).toBitVec.toNat % 2 ^ 16 = n
    rw [e1, Nat.mod_eq_of_lt (by omega)]
  rw [e1]
  exact e2
end
section
/-! the words for a state of the system, and rows for calls that change nothing -/
abbrev vwCl : List vw_C := [(RX0, TX0, 18), (RX1, TX1, 13)]
/-- truth as the machine has it -/
def b2i (b : Bool) : Int32 := if b then 1 else 0
theorem b2i_eq0 {b : Bool} : b2i b = 0 ↔ b = false := by cases b <;> decide
theorem b2i_ne0 {b : Bool} : ¬ b2i b = 0 ↔ b = true := by cases b <;> decide
theorem b2i_nar (b : Bool) : narrow .boolean (.int (b2i b)) = .int (b2i b) := by cases b <;> rfl
/-- of ExamGarden: places, students, graded, their sum, the bits of exams; rows of numbers: lefts, rights, standing, passedCounts, passedForks, lowest, highest; int rows: weights, grades, sure, hopes, hindsights; the row of reached bits -/
abbrev GS : Type := Nat × Nat × Int32 × Int32 × Int64 × (Nat → Nat) × (Nat → Nat) × (Nat → Nat) × (Nat → Nat) × (Nat → Nat) × (Nat → Nat) × (Nat → Nat) × (Nat → Int32) × (Nat → Int32) × (Nat → Int32) × (Nat → Int32) × (Nat → Int32) × (Nat → Int64)
abbrev gn (σ : GS) : Nat := σ.1
abbrev gk (σ : GS) : Nat := σ.2.1
abbrev gc (σ : GS) : Int32 := σ.2.2.1
abbrev gs (σ : GS) : Int32 := σ.2.2.2.1
abbrev ge (σ : GS) : Int64 := σ.2.2.2.2.1
abbrev glf (σ : GS) : Nat → Nat := σ.2.2.2.2.2.1
abbrev grt (σ : GS) : Nat → Nat := σ.2.2.2.2.2.2.1
abbrev gst (σ : GS) : Nat → Nat := σ.2.2.2.2.2.2.2.1
abbrev gpc (σ : GS) : Nat → Nat := σ.2.2.2.2.2.2.2.2.1
abbrev gpf (σ : GS) : Nat → Nat := σ.2.2.2.2.2.2.2.2.2.1
abbrev glo (σ : GS) : Nat → Nat := σ.2.2.2.2.2.2.2.2.2.2.1
abbrev ghi (σ : GS) : Nat → Nat := σ.2.2.2.2.2.2.2.2.2.2.2.1
abbrev gwt (σ : GS) : Nat → Int32 := σ.2.2.2.2.2.2.2.2.2.2.2.2.1
abbrev ggr (σ : GS) : Nat → Int32 := σ.2.2.2.2.2.2.2.2.2.2.2.2.2.1
abbrev gsu (σ : GS) : Nat → Int32 := σ.2.2.2.2.2.2.2.2.2.2.2.2.2.2.1
abbrev gho (σ : GS) : Nat → Int32 := σ.2.2.2.2.2.2.2.2.2.2.2.2.2.2.2.1
abbrev ghs (σ : GS) : Nat → Int32 := σ.2.2.2.2.2.2.2.2.2.2.2.2.2.2.2.2.1
abbrev grb (σ : GS) : Nat → Int64 := σ.2.2.2.2.2.2.2.2.2.2.2.2.2.2.2.2.2
/-- of the reference: thrown, places, students, forks, one, other, third, reach, sure, hopes, stands, passed, ways -/
abbrev MS : Type := Int32 × Nat × Nat × (Nat → Bool) × (Nat → Nat) × (Nat → Nat) × (Nat → Int32) × (Nat → Int64) × (Nat → Int32) × (Nat → Int32) × (Nat → Nat) × (Nat → Nat) × (Nat → Nat)
abbrev mt (σ : MS) : Int32 := σ.1
abbrev mn (σ : MS) : Nat := σ.2.1
abbrev mk (σ : MS) : Nat := σ.2.2.1
abbrev mf (σ : MS) : Nat → Bool := σ.2.2.2.1
abbrev mo (σ : MS) : Nat → Nat := σ.2.2.2.2.1
abbrev mh (σ : MS) : Nat → Nat := σ.2.2.2.2.2.1
abbrev md (σ : MS) : Nat → Int32 := σ.2.2.2.2.2.2.1
abbrev mr (σ : MS) : Nat → Int64 := σ.2.2.2.2.2.2.2.1
abbrev mu (σ : MS) : Nat → Int32 := σ.2.2.2.2.2.2.2.2.1
abbrev mv (σ : MS) : Nat → Int32 := σ.2.2.2.2.2.2.2.2.2.1
abbrev ms (σ : MS) : Nat → Nat := σ.2.2.2.2.2.2.2.2.2.2.1
abbrev mp (σ : MS) : Nat → Nat := σ.2.2.2.2.2.2.2.2.2.2.2.1
abbrev mw (σ : MS) : Nat → Nat := σ.2.2.2.2.2.2.2.2.2.2.2.2
/-- class ids: of the objects' classes and slots, of int rows, long rows, boolean rows -/
abbrev GE : Type := va_G × ClassId × ClassId × ClassId
abbrev gTy (E : GE) : List (ClassId × FieldType) := [(E.2.1, .int), (E.2.2.1, .long), (E.2.2.2, .boolean)]
abbrev gK (E : GE) (U : State) : Prop := va_K E.1 vwCl (gTy E) U
abbrev gP (E : GE) (ws : va_W) (H : Heap) : Prop := va_P E.1 vwCl ws H
abbrev gI (E : GE) (n : Nat) (f : Nat → Int32) : va_E := .inl (E.2.1, n, .inl f)
abbrev gJ (E : GE) (n : Nat) (f : Nat → Int64) : va_E := .inl (E.2.2.1, n, .inr (.inl f))
abbrev gZ (E : GE) (n : Nat) (f : Nat → Int32) : va_E := .inl (E.2.2.2, n, .inl f)
abbrev gM (E : GE) (n : Nat) (f : Nat → Nat) : va_E := .inl (E.2.1, n, .inl (fun j => nI (f j)))
abbrev gZb (E : GE) (n : Nat) (f : Nat → Bool) : va_E := .inl (E.2.2.2, n, .inl (fun j => b2i (f j)))
abbrev gF (a : Nat → Nat) (σ : GS) : List Value := [.int (nI (gn σ)), .int (nI (gk σ)), .int (gc σ), .int (gs σ), .long (ge σ), .ref (a 1), .ref (a 2), .ref (a 3), .ref (a 4), .ref (a 5), .ref (a 6), .ref (a 7), .ref (a 8), .ref (a 9), .ref (a 10), .ref (a 11), .ref (a 12), .ref (a 13)]
/-- the cells of an ExamGarden at a 0, its rows at a 1 .. a 13 -/
abbrev gW (E : GE) (a : Nat → Nat) (σ : GS) : va_W := [(a 0, .inr (0, gF a σ)), (a 1, gM E 40 (glo σ)), (a 2, gM E 40 (ghi σ)), (a 3, gM E 40 (glf σ)), (a 4, gM E 40 (grt σ)), (a 5, gI E 40 (gwt σ)), (a 6, gI E 40 (ggr σ)), (a 7, gI E 40 (gsu σ)), (a 8, gI E 40 (gho σ)), (a 9, gI E 40 (ghs σ)), (a 10, gJ E 40 (grb σ)), (a 11, gM E 8 (gst σ)), (a 12, gM E 8 (gpc σ)), (a 13, gM E 320 (gpf σ))]
abbrev mF (a : Nat → Nat) (τ : MS) : List Value := [.int (mt τ), .int (nI (mn τ)), .int (nI (mk τ)), .ref (a 1), .ref (a 2), .ref (a 3), .ref (a 4), .ref (a 5), .ref (a 6), .ref (a 7), .ref (a 8), .ref (a 9), .ref (a 10)]
/-- the cells of the reference at a 0, its rows at a 1 .. a 10 -/
abbrev mW (E : GE) (a : Nat → Nat) (τ : MS) : va_W := [(a 0, .inr (1, mF a τ)), (a 1, gZb E 40 (mf τ)), (a 2, gM E 40 (mo τ)), (a 3, gM E 40 (mh τ)), (a 4, gI E 40 (md τ)), (a 5, gJ E 40 (mr τ)), (a 6, gI E 40 (mu τ)), (a 7, gI E 40 (mv τ)), (a 8, gM E 8 (ms τ)), (a 9, gM E 8 (mp τ)), (a 10, gM E 320 (mw τ))]
/-- a world held, and the tables known -/
def gB (E : GE) (ws : va_W) (U : State) : Prop := gP E ws U.heap ∧ gK E U
theorem gB_blind {E : GE} {ws : va_W} {av : List Value} : FrameBlind (va_Pc av (gB E ws)) := fun a U g mk q => by
  obtain ⟨q0, qP, qK⟩ := q
  exact ⟨q0, qP, va_K.moved (u := U) (U := U.calling g mk a) (Vm.Alike.refl U.vm) qK⟩
theorem gB_preS {E : GE} {ws : va_W} {s : State} {H : Heap} (hP : gP E ws H) (hK : gK E s) (As : List Value) : PreS s H (va_Pc As (gB E ws)) As :=
  ⟨gB_blind, fun U hU hW => ⟨rfl, by rw [hU]; exact hP, va_K.moved hW.alike hK⟩⟩
theorem gB_preV {E : GE} {ws : va_W} {s : State} {H : Heap} {b ci q0 : Nat} {q : vw_C} {fs : List Value} (hP : gP E ws H) (hK : gK E s) (hc : vwCl[ci]? = some q) (he : ws[q0]? = some (b, .inr (ci, fs))) (As : List Value) : PreV s H q.1 b (va_Pc (.ref b :: As) (gB E ws)) As :=
  ⟨gB_blind, va_recv hK hP hc he, fun U hU hW => ⟨rfl, by rw [hU]; exact hP, va_K.moved hW.alike hK⟩⟩
/-- a method by its body -/
theorem w_met {l : Launch} {y : MethodName} {ws ws' : List Cond} {rm : Room} {av : List Value} {B : State → Prop} {Qc : Array Value → State → Outcome → State → Prop} {mc ms : Nat} {free : Addr → Prop} {cc : ByteArray} {maxL : Nat} {ret : Option FieldType}
    (hy : plainName y.cls = true) (hw : ws = Cond.code y cc maxL ret :: ws') (hn : (lg_sl av).length ≤ maxL)
    (body : ∀ (p : Program) (e : Env) (s : State) (m : MethodId) (below : List Frame) (meth : Method) (c : Code) (ls : Array Slot), CallFix p m c cc maxL s av.toArray ws y.cls → meth.sig.returnType = ret → meth.locks = false → meth.name = y.name → B s → lv_has ls maxL (lv_args 0 av) →
      W p l e (headSpec ws rm).room s m av.toArray below meth c s.heap [] 0 0 (MQ below Qc av.toArray s mc ms free) (F0 m 0 ls [])) : Met l y ws rm (va_Pc av B) Qc mc ms free := by
  refine Met.ofW (cc := cc) (maxL := maxL) (ret := ret) hy hw ?_
  intro p e s m args below meth c s₁ B0 hml hv
  obtain ⟨rfl, hB⟩ := hv
  rw [lg_entry_eq]
  exact body p e s m below meth c _ ⟨B0.exec, B0.bytes, hml, findClass_of_methodNamed B0.named, atoms_spec (ws := ws) B0.pre⟩ B0.returns B0.notSynchronized (name_of_methodNamed B0.named B0.method).1 hB (lv_entry av hn)
section GC
variable {p : Program} {l : Launch} {e : Env} {R : Room} {s : State} {m : MethodId} {args : Array Value} {below : List Frame} {meth : Method} {c : Code} {H : Heap} {locs : List Loc} {cells slots : Nat} {Q : State → Prop}
variable {cc bytes : ByteArray} {pc nL maxL n index : Nat} {ls : Array Slot} {rest st0 : List Value} {E : GE} {ws wc : va_W} {Ts wl : List Cond} {own C : String} {y : MethodName} {ret : Option FieldType} {rm : Room} {b ci q0 : Nat} {fs : List Value} {q : vw_C} {As : List Value}
/-- a call on an object that changes nothing and answers an int -/
theorem g_vi {v : Int32} (S : CallFix p m c cc nL s args Ts own) (hM : Met l y wl rm (va_Pc (.ref b :: As) (gB E wc)) (vp_Si (fun r => r = v)) 0 0 (fun _ => False)) (cw : CallW R s args own q.1 index y bytes maxL ret wl rm 0 0 n) (hK : gK E s) (hP : gP E wc H) (hc : vwCl[ci]? = some q) (he : wc[q0]? = some (b, .inr (ci, fs)))
    (hn : As.length = n) (hsize : ls.size = nL) (hstack : st0 = As.reverse ++ .ref b :: rest) (hW : (rest.map fun v => v.category).sum ≤ 8) (hf : cells ≤ R.cells ∧ slots ≤ R.slots) (hdg : decode cc pc = .ok (.invokevirtual index, 3))
    (kk : W p l e R s m args below meth c H locs cells slots Q (F0 m (pc + 3) ls (.int v :: rest))) : W p l e R s m args below meth c H locs cells slots Q (F0 m pc ls st0) :=
  vp_callSi (W.runV S hM cw (gB_preV hP hK hc he As) rfl hn hsize hstack (lv_room hW) hdg hf) (fun _ h => h ▸ kk)
theorem g_vl {v : Int64} (S : CallFix p m c cc nL s args Ts own) (hM : Met l y wl rm (va_Pc (.ref b :: As) (gB E wc)) (vp_Sl (fun r => r = v)) 0 0 (fun _ => False)) (cw : CallW R s args own q.1 index y bytes maxL ret wl rm 0 0 n) (hK : gK E s) (hP : gP E wc H) (hc : vwCl[ci]? = some q) (he : wc[q0]? = some (b, .inr (ci, fs)))
    (hn : As.length = n) (hsize : ls.size = nL) (hstack : st0 = As.reverse ++ .ref b :: rest) (hW : (rest.map fun v => v.category).sum ≤ 8) (hf : cells ≤ R.cells ∧ slots ≤ R.slots) (hdg : decode cc pc = .ok (.invokevirtual index, 3))
    (kk : W p l e R s m args below meth c H locs cells slots Q (F0 m (pc + 3) ls (.long v :: rest))) : W p l e R s m args below meth c H locs cells slots Q (F0 m pc ls st0) :=
  vp_callSl (W.runV S hM cw (gB_preV hP hK hc he As) rfl hn hsize hstack (lv_room hW) hdg hf) (fun _ h => h ▸ kk)
theorem g_vv (S : CallFix p m c cc nL s args Ts own) (hM : Met l y wl rm (va_Pc (.ref b :: As) (gB E wc)) (va_Sv (fun _ => True)) 0 0 (fun _ => False)) (cw : CallW R s args own q.1 index y bytes maxL ret wl rm 0 0 n) (hK : gK E s) (hP : gP E wc H) (hc : vwCl[ci]? = some q) (he : wc[q0]? = some (b, .inr (ci, fs)))
    (hn : As.length = n) (hsize : ls.size = nL) (hstack : st0 = As.reverse ++ .ref b :: rest) (hW : (rest.map fun v => v.category).sum ≤ 8) (hf : cells ≤ R.cells ∧ slots ≤ R.slots) (hdg : decode cc pc = .ok (.invokevirtual index, 3))
    (kk : W p l e R s m args below meth c H locs cells slots Q (F0 m (pc + 3) ls rest)) : W p l e R s m args below meth c H locs cells slots Q (F0 m pc ls st0) :=
  va_csv (W.runV S hM cw (gB_preV hP hK hc he As) rfl hn hsize hstack (lv_room hW) hdg hf) (fun _ => kk)
theorem g_si {v : Int32} (S : CallFix p m c cc nL s args Ts own) (hM : Met l y wl rm (va_Pc As (gB E wc)) (vp_Si (fun r => r = v)) 0 0 (fun _ => False)) (cw : CallB R s args own index y bytes maxL ret wl rm 0 0 n ∧ (Cond.static y).before args s = true) (hK : gK E s) (hP : gP E wc H)
    (hn : As.length = n) (hsize : ls.size = nL) (hstack : st0 = As.reverse ++ rest) (hW : (rest.map fun v => v.category).sum ≤ 8) (hf : cells ≤ R.cells ∧ slots ≤ R.slots) (hdg : decode cc pc = .ok (.invokestatic index, 3))
    (kk : W p l e R s m args below meth c H locs cells slots Q (F0 m (pc + 3) ls (.int v :: rest))) : W p l e R s m args below meth c H locs cells slots Q (F0 m pc ls st0) :=
  vp_callSi (W.runS S hM cw (gB_preS hP hK As) rfl hn hsize hstack (lv_room hW) hdg hf) (fun _ h => h ▸ kk)
theorem g_sl {v : Int64} (S : CallFix p m c cc nL s args Ts own) (hM : Met l y wl rm (va_Pc As (gB E wc)) (vp_Sl (fun r => r = v)) 0 0 (fun _ => False)) (cw : CallB R s args own index y bytes maxL ret wl rm 0 0 n ∧ (Cond.static y).before args s = true) (hK : gK E s) (hP : gP E wc H)
    (hn : As.length = n) (hsize : ls.size = nL) (hstack : st0 = As.reverse ++ rest) (hW : (rest.map fun v => v.category).sum ≤ 8) (hf : cells ≤ R.cells ∧ slots ≤ R.slots) (hdg : decode cc pc = .ok (.invokestatic index, 3))
    (kk : W p l e R s m args below meth c H locs cells slots Q (F0 m (pc + 3) ls (.long v :: rest))) : W p l e R s m args below meth c H locs cells slots Q (F0 m pc ls st0) :=
  vp_callSl (W.runS S hM cw (gB_preS hP hK As) rfl hn hsize hstack (lv_room hW) hdg hf) (fun _ h => h ▸ kk)
theorem g_sv (S : CallFix p m c cc nL s args Ts own) (hM : Met l y wl rm (va_Pc As (gB E wc)) (va_Sv (fun _ => True)) 0 0 (fun _ => False)) (cw : CallB R s args own index y bytes maxL ret wl rm 0 0 n ∧ (Cond.static y).before args s = true) (hK : gK E s) (hP : gP E wc H)
    (hn : As.length = n) (hsize : ls.size = nL) (hstack : st0 = As.reverse ++ rest) (hW : (rest.map fun v => v.category).sum ≤ 8) (hf : cells ≤ R.cells ∧ slots ≤ R.slots) (hdg : decode cc pc = .ok (.invokestatic index, 3))
    (kk : W p l e R s m args below meth c H locs cells slots Q (F0 m (pc + 3) ls rest)) : W p l e R s m args below meth c H locs cells slots Q (F0 m pc ls st0) :=
  va_csv (W.runS S hM cw (gB_preS hP hK As) rfl hn hsize hstack (lv_room hW) hdg hf) (fun _ => kk)
end GC

section GL
variable {p : Program} {l : Launch} {e : Env} {R : Room} {s : State} {m : MethodId} {args : Array Value} {below : List Frame} {meth : Method} {c : Code} {H H0 : Heap} {locs : List Loc} {cells slots : Nat} {Q : State → Prop} {A : Nat → Prop}
variable {cc : ByteArray} {pc n index : Nat} {ls : Array Slot} {rest : List Value} {E : GE} {ws : va_W} {Ts : List Cond} {b : Nat} {a : Nat → Nat} {σ : GS} {τ : MS}
theorem g_get (hx : p.tables.exec = Jvm.exec) (hb : c.code = cc) (hts : ∀ w ∈ Ts, w.before args s = true) (hin : ∀ w ∈ wsX00, w ∈ Ts) (hown : s.vm.findClass RX0 = some m.cls) (hK : gK E s) (hP : gP E (gW E a σ) H) (k : Nat) (hk : k < 18) (hlink : Cond.fieldLink RX0 index RX0 (TX0 k).2.1 (TX0 k).2.2.1 ∈ Ts) (ho : (TX0 k).1 = RX0) {v : Value} (hv : (gF a σ)[k]? = some v) (hdg : decode cc pc = .ok (.getfield index, 3))
    (kk : W p l e R s m args below meth c H locs cells slots Q (F0 m (pc + 3) ls (v :: rest))) : W p l e R s m args below meth c H locs cells slots Q (F0 m pc ls (.ref (a 0) :: rest)) :=
  va_get (D := E.1) (ci := 0) (C := RX0) (T := TX0) (N := 18) hx hb hts hin hown hK hP 0 rfl rfl k hk (hts _ hlink) (fun _ h => by rw [ho] at h; exact h) hv hdg kk
theorem m_get (hx : p.tables.exec = Jvm.exec) (hb : c.code = cc) (hts : ∀ w ∈ Ts, w.before args s = true) (hin : ∀ w ∈ wsX10, w ∈ Ts) (hown : s.vm.findClass RX1 = some m.cls) (hK : gK E s) (hP : gP E (mW E a τ) H) (k : Nat) (hk : k < 13) (hlink : Cond.fieldLink RX1 index RX1 (TX1 k).2.1 (TX1 k).2.2.1 ∈ Ts) (ho : (TX1 k).1 = RX1) {v : Value} (hv : (mF a τ)[k]? = some v) (hdg : decode cc pc = .ok (.getfield index, 3))
    (kk : W p l e R s m args below meth c H locs cells slots Q (F0 m (pc + 3) ls (v :: rest))) : W p l e R s m args below meth c H locs cells slots Q (F0 m pc ls (.ref (a 0) :: rest)) :=
  va_get (D := E.1) (ci := 1) (C := RX1) (T := TX1) (N := 13) hx hb hts hin hown hK hP 0 rfl rfl k hk (hts _ hlink) (fun _ h => by rw [ho] at h; exact h) hv hdg kk
theorem g_ild (hx : p.tables.exec = Jvm.exec) (hb : c.code = cc) (hK : gK E s) (hP : gP E ws H) (q0 : Nat) {f : Nat → Int32} (ha : ws[q0]? = some (b, gI E n f)) {i v : Int32} (hin : vp_in i n) (hv : f i.toNatClampNeg = v) (hdg : decode cc pc = .ok (.iaload, 1))
    (kk : W p l e R s m args below meth c H locs cells slots Q (F0 m (pc + 1) ls (.int v :: rest))) : W p l e R s m args below meth c H locs cells slots Q (F0 m pc ls (.int i :: .ref b :: rest)) :=
  va_iald hx hb hK hP q0 0 ha rfl hin hdg (by rw [hv]; exact kk)
theorem g_zld (hx : p.tables.exec = Jvm.exec) (hb : c.code = cc) (hK : gK E s) (hP : gP E ws H) (q0 : Nat) {f : Nat → Int32} (ha : ws[q0]? = some (b, gZ E n f)) {i v : Int32} (hin : vp_in i n) (hv : f i.toNatClampNeg = v) (hdg : decode cc pc = .ok (.baload, 1))
    (kk : W p l e R s m args below meth c H locs cells slots Q (F0 m (pc + 1) ls (.int v :: rest))) : W p l e R s m args below meth c H locs cells slots Q (F0 m pc ls (.int i :: .ref b :: rest)) :=
  va_zald hx hb hK hP q0 2 ha rfl hin hdg (by rw [hv]; exact kk)
theorem g_lld (hx : p.tables.exec = Jvm.exec) (hb : c.code = cc) (hK : gK E s) (hP : gP E ws H) (q0 : Nat) {f : Nat → Int64} (ha : ws[q0]? = some (b, gJ E n f)) {i : Int32} {v : Int64} (hin : vp_in i n) (hv : f i.toNatClampNeg = v) (hdg : decode cc pc = .ok (.laload, 1))
    (kk : W p l e R s m args below meth c H locs cells slots Q (F0 m (pc + 1) ls (.long v :: rest))) : W p l e R s m args below meth c H locs cells slots Q (F0 m pc ls (.int i :: .ref b :: rest)) :=
  va_lald hx hb hK hP q0 1 ha rfl hin hdg (by rw [hv]; exact kk)
theorem g_ist (hx : p.tables.exec = Jvm.exec) (hb : c.code = cc) (hK : gK E s) (hP : gP E ws H) (hD : va_D A ws) (hS : va_S A H0 H locs) (q0 : Nat) {f f' : Nat → Int32} (ha : ws[q0]? = some (b, gI E n f)) {i x : Int32} (hin : vp_in i n) (hv : upd f i.toNatClampNeg x = f') (hdg : decode cc pc = .ok (.iastore, 1))
    (kk : ∀ (H1 : Heap) (locs1 : List Loc), gP E (ws.set q0 (b, gI E n f')) H1 → va_D A (ws.set q0 (b, gI E n f')) → va_S A H0 H1 locs1 → W p l e R s m args below meth c H1 locs1 cells slots Q (F0 m (pc + 1) ls rest)) : W p l e R s m args below meth c H locs cells slots Q (F0 m pc ls (.int x :: .int i :: .ref b :: rest)) :=
  va_iast hx hb hK hP hD hS q0 0 ha rfl hin hdg (by rw [hv]; exact kk)
theorem g_zst (hx : p.tables.exec = Jvm.exec) (hb : c.code = cc) (hK : gK E s) (hP : gP E ws H) (hD : va_D A ws) (hS : va_S A H0 H locs) (q0 : Nat) {f f' : Nat → Int32} (ha : ws[q0]? = some (b, gZ E n f)) {i x : Int32} (hin : vp_in i n) (hv : upd f i.toNatClampNeg (vp_nar .boolean x) = f') (hdg : decode cc pc = .ok (.bastore, 1))
    (kk : ∀ (H1 : Heap) (locs1 : List Loc), gP E (ws.set q0 (b, gZ E n f')) H1 → va_D A (ws.set q0 (b, gZ E n f')) → va_S A H0 H1 locs1 → W p l e R s m args below meth c H1 locs1 cells slots Q (F0 m (pc + 1) ls rest)) : W p l e R s m args below meth c H locs cells slots Q (F0 m pc ls (.int x :: .int i :: .ref b :: rest)) :=
  va_zast hx hb hK hP hD hS q0 2 ha rfl hin hdg (by rw [hv]; exact kk)
theorem g_lst (hx : p.tables.exec = Jvm.exec) (hb : c.code = cc) (hK : gK E s) (hP : gP E ws H) (hD : va_D A ws) (hS : va_S A H0 H locs) (q0 : Nat) {f f' : Nat → Int64} (ha : ws[q0]? = some (b, gJ E n f)) {i : Int32} {x : Int64} (hin : vp_in i n) (hv : vp_updL f i.toNatClampNeg x = f') (hdg : decode cc pc = .ok (.lastore, 1))
    (kk : ∀ (H1 : Heap) (locs1 : List Loc), gP E (ws.set q0 (b, gJ E n f')) H1 → va_D A (ws.set q0 (b, gJ E n f')) → va_S A H0 H1 locs1 → W p l e R s m args below meth c H1 locs1 cells slots Q (F0 m (pc + 1) ls rest)) : W p l e R s m args below meth c H locs cells slots Q (F0 m pc ls (.long x :: .int i :: .ref b :: rest)) :=
  va_last hx hb hK hP hD hS q0 1 ha rfl hin hdg (by rw [hv]; exact kk)
end GL
/-- a row of numbers, written at a place -/
theorem n_upd (f : Nat → Nat) (k v : Nat) : upd (fun j => nI (f j)) k (nI v) = fun j => nI (va_up f k v j) := by
  funext j
  by_cases h : j = k <;> simp [upd, va_up, h]
theorem b_upd (f : Nat → Bool) (k : Nat) (v : Bool) : upd (fun j => b2i (f j)) k (b2i v) = fun j => b2i (va_up f k v j) := by
  funext j
  by_cases h : j = k <;> simp [upd, va_up, h]
theorem b2i_vp (b : Bool) : vp_nar .boolean (b2i b) = b2i b := by cases b <;> rfl
theorem va_D_fst {A : Nat → Prop} {w1 w2 : va_W} (h : va_D A w1) (e : w1.map Prod.fst = w2.map Prod.fst) : va_D A w2 := by
  have key : ∀ (i : Nat) (p : Nat × va_E), w2[i]? = some p → ∃ p0 : Nat × va_E, w1[i]? = some p0 ∧ p0.1 = p.1 := by
    intro i p hp
    have h2 : (w2.map Prod.fst)[i]? = some p.1 := by rw [List.getElem?_map, hp]; rfl
    rw [← e, List.getElem?_map] at h2
    cases h3 : w1[i]? with
    | none => rw [h3] at h2; cases h2
    | some p0 => rw [h3] at h2; exact ⟨p0, rfl, Option.some.inj h2⟩
  refine ⟨fun i j p q hi hj hpq => ?_, fun k q hk => ?_⟩
  · obtain ⟨p0, h1, h2⟩ := key i p hi
    obtain ⟨q0, h3, h4⟩ := key j q hj
    exact h.1 i j p0 q0 h1 h3 (by rw [h2, h4, hpq])
  · obtain ⟨q0, h3, h4⟩ := key k q hk
    rw [← h4]
    exact h.2 k q0 h3
theorem gW_D {A : Nat → Prop} {E : GE} {a : Nat → Nat} {σ σ' : GS} (h : va_D A (gW E a σ)) : va_D A (gW E a σ') := va_D_fst h rfl
theorem mW_D {A : Nat → Prop} {E : GE} {a : Nat → Nat} {τ τ' : MS} (h : va_D A (mW E a τ)) : va_D A (mW E a τ') := va_D_fst h rfl
/-- a world held, the heap's size told, the addresses apart -/
def gBw (E : GE) (sz : Nat) (ws : va_W) (U : State) : Prop := U.heap.size = sz ∧ gP E ws U.heap ∧ gK E U ∧ va_D (fun _ => True) ws
theorem gBw_blind {E : GE} {sz : Nat} {ws : va_W} {av : List Value} : FrameBlind (va_Pc av (gBw E sz ws)) := fun a U g mk q => by
  obtain ⟨q0, q1, qP, qK, qD⟩ := q
  exact ⟨q0, q1, qP, va_K.moved (u := U) (U := U.calling g mk a) (Vm.Alike.refl U.vm) qK, qD⟩
theorem gBw_preS {E : GE} {ws : va_W} {s : State} {H : Heap} {A : Nat → Prop} (hP : gP E ws H) (hK : gK E s) (hD : va_D A ws) (As : List Value) : PreS s H (va_Pc As (gBw E H.size ws)) As :=
  ⟨gBw_blind, fun U hU hW => ⟨rfl, by rw [hU], by rw [hU]; exact hP, va_K.moved hW.alike hK, hD.weaken (fun _ _ _ _ => trivial)⟩⟩
theorem gBw_preV {E : GE} {ws : va_W} {s : State} {H : Heap} {A : Nat → Prop} {b ci q0 : Nat} {q : vw_C} {fs : List Value} (hP : gP E ws H) (hK : gK E s) (hD : va_D A ws) (hc : vwCl[ci]? = some q) (he : ws[q0]? = some (b, .inr (ci, fs))) (As : List Value) : PreV s H q.1 b (va_Pc (.ref b :: As) (gBw E H.size ws)) As :=
  ⟨gBw_blind, va_recv hK hP hc he, fun U hU hW => ⟨rfl, by rw [hU], by rw [hU]; exact hP, va_K.moved hW.alike hK, hD.weaken (fun _ _ _ _ => trivial)⟩⟩
/-- what a method that writes its world hands back -/
abbrev gQv (E : GE) (ws ws' : va_W) (sz : Nat) : Array Value → State → Outcome → State → Prop := va_Qv (fun _ : Unit => True) (fun _ t => gP E ws' t.heap) (va_A ws sz)
abbrev gQi (E : GE) (v : Int32) (ws ws' : va_W) (sz : Nat) : Array Value → State → Outcome → State → Prop := va_Qi (fun r (_ : Unit) => r = v) (fun _ t => gP E ws' t.heap) (va_A ws sz)
/-- all of one world may be written: inside another one -/
theorem va_A_in {A : Nat → Prop} {ws : va_W} {H0 H : Heap} {locs : List Loc} (hD : va_D A ws) (hS : va_S A H0 H locs) (hA : ∀ q, H0.size ≤ q → A q) : ∀ q, va_A ws H.size q → A q := by
  rintro q (⟨k, e, hk⟩ | h)
  · exact hD.2 k (q, e) hk
  · exact hA q (Nat.le_trans hS.1 h)
section GV
variable {p : Program} {l : Launch} {e : Env} {R : Room} {s : State} {m : MethodId} {args : Array Value} {below : List Frame} {meth : Method} {c : Code} {H H0 : Heap} {locs : List Loc} {cells slots : Nat} {Q : State → Prop} {A : Nat → Prop}
variable {cc bytes : ByteArray} {pc nL maxL n index : Nat} {ls : Array Slot} {rest st0 : List Value} {E : GE} {ws : va_W} {Ts wl : List Cond} {own : String} {y : MethodName} {ret : Option FieldType} {rm : Room} {b : Nat} {a : Nat → Nat} {σ σ' : GS} {τ τ' : MS} {As : List Value}
theorem g0i {v : Int32} (S : CallFix p m c cc nL s args Ts own) (hM : Met l y wl rm (va_Pc (.ref (a 0) :: As) (gB E (gW E a σ))) (vp_Si (fun r => r = v)) 0 0 (fun _ => False)) (cw : CallW R s args own RX0 index y bytes maxL ret wl rm 0 0 n) (hK : gK E s) (hP : gP E (gW E a σ) H)
    (hn : As.length = n) (hsize : ls.size = nL) (hstack : st0 = As.reverse ++ .ref (a 0) :: rest) (hW : (rest.map fun v => v.category).sum ≤ 8) (hf : cells ≤ R.cells ∧ slots ≤ R.slots) (hdg : decode cc pc = .ok (.invokevirtual index, 3))
    (kk : W p l e R s m args below meth c H locs cells slots Q (F0 m (pc + 3) ls (.int v :: rest))) : W p l e R s m args below meth c H locs cells slots Q (F0 m pc ls st0) :=
  g_vi (ci := 0) (q0 := 0) (q := (RX0, TX0, 18)) (fs := gF a σ) S hM cw hK hP rfl rfl hn hsize hstack hW hf hdg kk
theorem g0l {v : Int64} (S : CallFix p m c cc nL s args Ts own) (hM : Met l y wl rm (va_Pc (.ref (a 0) :: As) (gB E (gW E a σ))) (vp_Sl (fun r => r = v)) 0 0 (fun _ => False)) (cw : CallW R s args own RX0 index y bytes maxL ret wl rm 0 0 n) (hK : gK E s) (hP : gP E (gW E a σ) H)
    (hn : As.length = n) (hsize : ls.size = nL) (hstack : st0 = As.reverse ++ .ref (a 0) :: rest) (hW : (rest.map fun v => v.category).sum ≤ 8) (hf : cells ≤ R.cells ∧ slots ≤ R.slots) (hdg : decode cc pc = .ok (.invokevirtual index, 3))
    (kk : W p l e R s m args below meth c H locs cells slots Q (F0 m (pc + 3) ls (.long v :: rest))) : W p l e R s m args below meth c H locs cells slots Q (F0 m pc ls st0) :=
  g_vl (ci := 0) (q0 := 0) (q := (RX0, TX0, 18)) (fs := gF a σ) S hM cw hK hP rfl rfl hn hsize hstack hW hf hdg kk
theorem g0v (S : CallFix p m c cc nL s args Ts own) (hM : Met l y wl rm (va_Pc (.ref (a 0) :: As) (gB E (gW E a σ))) (va_Sv (fun _ => True)) 0 0 (fun _ => False)) (cw : CallW R s args own RX0 index y bytes maxL ret wl rm 0 0 n) (hK : gK E s) (hP : gP E (gW E a σ) H)
    (hn : As.length = n) (hsize : ls.size = nL) (hstack : st0 = As.reverse ++ .ref (a 0) :: rest) (hW : (rest.map fun v => v.category).sum ≤ 8) (hf : cells ≤ R.cells ∧ slots ≤ R.slots) (hdg : decode cc pc = .ok (.invokevirtual index, 3))
    (kk : W p l e R s m args below meth c H locs cells slots Q (F0 m (pc + 3) ls rest)) : W p l e R s m args below meth c H locs cells slots Q (F0 m pc ls st0) :=
  g_vv (ci := 0) (q0 := 0) (q := (RX0, TX0, 18)) (fs := gF a σ) S hM cw hK hP rfl rfl hn hsize hstack hW hf hdg kk
theorem m0i {v : Int32} (S : CallFix p m c cc nL s args Ts own) (hM : Met l y wl rm (va_Pc (.ref (a 0) :: As) (gB E (mW E a τ))) (vp_Si (fun r => r = v)) 0 0 (fun _ => False)) (cw : CallW R s args own RX1 index y bytes maxL ret wl rm 0 0 n) (hK : gK E s) (hP : gP E (mW E a τ) H)
    (hn : As.length = n) (hsize : ls.size = nL) (hstack : st0 = As.reverse ++ .ref (a 0) :: rest) (hW : (rest.map fun v => v.category).sum ≤ 8) (hf : cells ≤ R.cells ∧ slots ≤ R.slots) (hdg : decode cc pc = .ok (.invokevirtual index, 3))
    (kk : W p l e R s m args below meth c H locs cells slots Q (F0 m (pc + 3) ls (.int v :: rest))) : W p l e R s m args below meth c H locs cells slots Q (F0 m pc ls st0) :=
  g_vi (ci := 1) (q0 := 0) (q := (RX1, TX1, 13)) (fs := mF a τ) S hM cw hK hP rfl rfl hn hsize hstack hW hf hdg kk
/-- calls that write their whole world -/
theorem g0w (S : CallFix p m c cc nL s args Ts own) (hM : Met l y wl rm (va_Pc (.ref (a 0) :: As) (gBw E H.size (gW E a σ))) (gQv E (gW E a σ) (gW E a σ') H.size) 0 0 (va_A (gW E a σ) H.size)) (cw : CallW R s args own RX0 index y bytes maxL ret wl rm 0 0 n) (hK : gK E s) (hP : gP E (gW E a σ) H) (hD : va_D A (gW E a σ)) (hS : va_S A H0 H locs) (hA : ∀ q, H0.size ≤ q → A q)
    (hn : As.length = n) (hsize : ls.size = nL) (hstack : st0 = As.reverse ++ .ref (a 0) :: rest) (hW : (rest.map fun v => v.category).sum ≤ 8) (hf : cells ≤ R.cells ∧ slots ≤ R.slots) (hdg : decode cc pc = .ok (.invokevirtual index, 3))
    (kk : ∀ (H1 : Heap) (locs1 : List Loc), gP E (gW E a σ') H1 → va_D A (gW E a σ') → va_S A H0 H1 locs1 → W p l e R s m args below meth c H1 locs1 cells slots Q (F0 m (pc + 3) ls rest)) : W p l e R s m args below meth c H locs cells slots Q (F0 m pc ls st0) :=
  va_callv (va_runV S hM cw (gBw_preV (ci := 0) (q0 := 0) (q := (RX0, TX0, 18)) (fs := gF a σ) hP hK hD rfl rfl As) rfl hn hsize hstack (lv_room hW) hdg hf) hS (fun q _ h => va_A_in hD hS hA q h) (va_A_in hD hS hA) (fun _ t H1 locs1 ht _ _ hB _ _ hS1 => kk H1 locs1 (by rw [← ht]; exact hB) (gW_D hD) hS1)
theorem m0wi {v : Int32} (S : CallFix p m c cc nL s args Ts own) (hM : Met l y wl rm (va_Pc (.ref (a 0) :: As) (gBw E H.size (mW E a τ))) (gQi E v (mW E a τ) (mW E a τ') H.size) 0 0 (va_A (mW E a τ) H.size)) (cw : CallW R s args own RX1 index y bytes maxL ret wl rm 0 0 n) (hK : gK E s) (hP : gP E (mW E a τ) H) (hD : va_D A (mW E a τ)) (hS : va_S A H0 H locs) (hA : ∀ q, H0.size ≤ q → A q)
    (hn : As.length = n) (hsize : ls.size = nL) (hstack : st0 = As.reverse ++ .ref (a 0) :: rest) (hW : (rest.map fun v => v.category).sum ≤ 8) (hf : cells ≤ R.cells ∧ slots ≤ R.slots) (hdg : decode cc pc = .ok (.invokevirtual index, 3))
    (kk : ∀ (H1 : Heap) (locs1 : List Loc), gP E (mW E a τ') H1 → va_D A (mW E a τ') → va_S A H0 H1 locs1 → W p l e R s m args below meth c H1 locs1 cells slots Q (F0 m (pc + 3) ls (.int v :: rest))) : W p l e R s m args below meth c H locs cells slots Q (F0 m pc ls st0) :=
  va_calli (va_runV S hM cw (gBw_preV (ci := 1) (q0 := 0) (q := (RX1, TX1, 13)) (fs := mF a τ) hP hK hD rfl rfl As) rfl hn hsize hstack (lv_room hW) hdg hf) hS (fun q _ h => va_A_in hD hS hA q h) (va_A_in hD hS hA) (fun r _ t H1 locs1 ht _ hr hB _ _ hS1 => by rw [hr]; exact kk H1 locs1 (by rw [← ht]; exact hB) (mW_D hD) hS1)
theorem m0wv (S : CallFix p m c cc nL s args Ts own) (hM : Met l y wl rm (va_Pc (.ref (a 0) :: As) (gBw E H.size (mW E a τ))) (gQv E (mW E a τ) (mW E a τ') H.size) 0 0 (va_A (mW E a τ) H.size)) (cw : CallW R s args own RX1 index y bytes maxL ret wl rm 0 0 n) (hK : gK E s) (hP : gP E (mW E a τ) H) (hD : va_D A (mW E a τ)) (hS : va_S A H0 H locs) (hA : ∀ q, H0.size ≤ q → A q)
    (hn : As.length = n) (hsize : ls.size = nL) (hstack : st0 = As.reverse ++ .ref (a 0) :: rest) (hW : (rest.map fun v => v.category).sum ≤ 8) (hf : cells ≤ R.cells ∧ slots ≤ R.slots) (hdg : decode cc pc = .ok (.invokevirtual index, 3))
    (kk : ∀ (H1 : Heap) (locs1 : List Loc), gP E (mW E a τ') H1 → va_D A (mW E a τ') → va_S A H0 H1 locs1 → W p l e R s m args below meth c H1 locs1 cells slots Q (F0 m (pc + 3) ls rest)) : W p l e R s m args below meth c H locs cells slots Q (F0 m pc ls st0) :=
  va_callv (va_runV S hM cw (gBw_preV (ci := 1) (q0 := 0) (q := (RX1, TX1, 13)) (fs := mF a τ) hP hK hD rfl rfl As) rfl hn hsize hstack (lv_room hW) hdg hf) hS (fun q _ h => va_A_in hD hS hA q h) (va_A_in hD hS hA) (fun _ t H1 locs1 ht _ _ hB _ _ hS1 => kk H1 locs1 (by rw [← ht]; exact hB) (mW_D hD) hS1)
end GV
end
section
/-! ExamGarden's static rows: at, put, bitsAt, putBits, bitOf -/
abbrev rmZ : Room := { frames := 0, cells := 0, slots := 0, locals := 0 }
def gbit (k : Nat) : Int64 := lN (2 ^ k)
/-- whether bit k is set -/
def gEx (eb : Int64) (k : Nat) : Bool := !decide (eb &&& gbit k = 0)
def imx (x y : Int32) : Int32 := if x < y then y else x
def imn (x y : Int32) : Int32 := if y < x then y else x
set_option maxHeartbeats 4000000 in
set_option maxRecDepth 100000 in
theorem c_at (l : Launch) (E : GE) (q n : Nat) (f : Nat → Int32) (i v : Int32) (hi : vp_in i n) (hn : n < 2 ^ 31) (hv : f i.toNatClampNeg = v) : Met l yX0_at wsX0_at rmZ (va_Pc [.ref q, .int i] (gB E [(q, gI E n f)])) (vp_Si (fun r => r = v)) 0 0 (fun _ => False) := by
  refine w_met (cc := cX0_at) (maxL := 2) (ret := some .int) (by decide) rfl (Nat.le_of_ble_eq_true rfl) ?_
  intro p e s m below meth c ls S hr hlocks hname hB hl
  obtain ⟨hP, hK⟩ := hB
  obtain ⟨hx, hb, hml, hown, hts⟩ := id S
  have hl : lv_has ls 2 [(0, .ref q), (1, .int i)] := hl
  obtain ⟨k, hk, rfl⟩ := vp_in_of hi hn
  refine lv_iload_n hx hb dX0_at_0 rfl (lv_at hl 1 rfl) ?_
  refine lv_if_lt (tgt := 16) hx hb dX0_at_1 (by decide) (fun h => absurd h (nI_pos (by omega))) (fun _ => ?_)
  refine lv_iload_n hx hb dX0_at_4 rfl (lv_at hl 1 rfl) ?_
  refine lv_aload_n hx hb dX0_at_5 rfl (lv_at hl 0 rfl) ?_
  refine va_alen hx hb hK hP 0 0 rfl rfl (v := nI n) rfl dX0_at_6 ?_
  refine lv_icmp_ge (tgt := 16) hx hb dX0_at_7 (by decide) (fun h => absurd h (nI_ge hk hn)) (fun _ => ?_)
  refine lv_aload_n hx hb dX0_at_10 rfl (lv_at hl 0 rfl) ?_
  refine lv_iload_n hx hb dX0_at_11 rfl (lv_at hl 1 rfl) ?_
  refine va_iald hx hb hK hP 0 0 rfl rfl hi dX0_at_12 ?_
  refine lv_goto (tgt := 17) hx hb dX0_at_13 (by decide) ?_
  exact W.iret hx hb hr (fun t ht hW => ⟨_, rfl, hv, ht⟩) (fun _ h => nomatch h) dX0_at_17
set_option maxHeartbeats 4000000 in
set_option maxRecDepth 100000 in
theorem c_bitsAt (l : Launch) (E : GE) (q n : Nat) (f : Nat → Int64) (i : Int32) (v : Int64) (hi : vp_in i n) (hn : n < 2 ^ 31) (hv : f i.toNatClampNeg = v) : Met l yX0_bitsAt wsX0_bitsAt rmZ (va_Pc [.ref q, .int i] (gB E [(q, gJ E n f)])) (vp_Sl (fun r => r = v)) 0 0 (fun _ => False) := by
  refine w_met (cc := cX0_bitsAt) (maxL := 2) (ret := some .long) (by decide) rfl (Nat.le_of_ble_eq_true rfl) ?_
  intro p e s m below meth c ls S hr hlocks hname hB hl
  obtain ⟨hP, hK⟩ := hB
  obtain ⟨hx, hb, hml, hown, hts⟩ := id S
  have hl : lv_has ls 2 [(0, .ref q), (1, .int i)] := hl
  obtain ⟨k, hk, rfl⟩ := vp_in_of hi hn
  refine lv_iload_n hx hb dX0_bitsAt_0 rfl (lv_at hl 1 rfl) ?_
  refine lv_if_lt (tgt := 16) hx hb dX0_bitsAt_1 (by decide) (fun h => absurd h (nI_pos (by omega))) (fun _ => ?_)
  refine lv_iload_n hx hb dX0_bitsAt_4 rfl (lv_at hl 1 rfl) ?_
  refine lv_aload_n hx hb dX0_bitsAt_5 rfl (lv_at hl 0 rfl) ?_
  refine va_alen hx hb hK hP 0 1 rfl rfl (v := nI n) rfl dX0_bitsAt_6 ?_
  refine lv_icmp_ge (tgt := 16) hx hb dX0_bitsAt_7 (by decide) (fun h => absurd h (nI_ge hk hn)) (fun _ => ?_)
  refine lv_aload_n hx hb dX0_bitsAt_10 rfl (lv_at hl 0 rfl) ?_
  refine lv_iload_n hx hb dX0_bitsAt_11 rfl (lv_at hl 1 rfl) ?_
  refine va_lald hx hb hK hP 0 1 rfl rfl hi dX0_bitsAt_12 ?_
  refine lv_goto (tgt := 17) hx hb dX0_bitsAt_13 (by decide) ?_
  exact W.lret hx hb hr (fun t ht hW => ⟨_, rfl, hv, ht⟩) (fun _ h => nomatch h) dX0_bitsAt_17
set_option maxHeartbeats 4000000 in
set_option maxRecDepth 100000 in
theorem c_bitOf (l : Launch) (E : GE) (k : Nat) (hk : k < 64) : Met l yX0_bitOf wsX0_bitOf rmZ (va_Pc [.int (nI k)] (gB E [])) (vp_Sl (fun r => r = gbit k)) 0 0 (fun _ => False) := by
  refine w_met (cc := cX0_bitOf) (maxL := 1) (ret := some .long) (by decide) rfl (Nat.le_of_ble_eq_true rfl) ?_
  intro p e s m below meth c ls S hr hlocks hname hB hl
  obtain ⟨hx, hb, hml, hown, hts⟩ := id S
  have hl : lv_has ls 1 [(0, .int (nI k))] := hl
  refine lv_lconst (v := 1) hx hb dX0_bitOf_0 (by decide) ?_
  refine lv_iload_n hx hb dX0_bitOf_1 rfl (lv_at hl 0 rfl) ?_
  refine lv_lshl (v := gbit k) hx hb dX0_bitOf_2 ((wb_shl 1 hk).trans (by rw [Nat.one_mul]; rfl)) ?_
  exact W.lret hx hb hr (fun t ht hW => ⟨_, rfl, rfl, ht⟩) (fun _ h => nomatch h) dX0_bitOf_3
theorem gD1 {A : Nat → Prop} {q : Nat} {x : va_E} (h : A q) : va_D A [(q, x)] := by
  refine ⟨fun i j p r hi hj _ => ?_, fun k r hk => ?_⟩
  · have h1 := (List.getElem?_eq_some_iff.mp hi).1
    have h2 := (List.getElem?_eq_some_iff.mp hj).1
    simp only [List.length_cons, List.length_nil] at h1 h2
    omega
  · have h1 := (List.getElem?_eq_some_iff.mp hk).1
    simp only [List.length_cons, List.length_nil] at h1
    have h2 : k = 0 := by omega
    subst h2
    cases hk
    exact h
set_option maxHeartbeats 4000000 in
set_option maxRecDepth 100000 in
theorem c_put (l : Launch) (E : GE) (sz q n : Nat) (f f' : Nat → Int32) (i v : Int32) (hi : vp_in i n) (hn : n < 2 ^ 31) (hv : upd f i.toNatClampNeg v = f') : Met l yX0_put wsX0_put rmZ (va_Pc [.ref q, .int i, .int v] (gBw E sz [(q, gI E n f)])) (gQv E [(q, gI E n f)] [(q, gI E n f')] sz) 0 0 (va_A [(q, gI E n f)] sz) := by
  refine w_met (cc := cX0_put) (maxL := 3) (ret := none) (by decide) rfl (Nat.le_of_ble_eq_true rfl) ?_
  intro p e s m below meth c ls S hr hlocks hname hB hl
  obtain ⟨hsz, hP, hK, hD0⟩ := hB
  subst hsz
  have hD := hD0.self (sz := s.heap.size)
  have hS : va_S (va_A [(q, gI E n f)] s.heap.size) s.heap s.heap [] := va_S.rf
  obtain ⟨hx, hb, hml, hown, hts⟩ := id S
  have hl : lv_has ls 3 [(0, .ref q), (1, .int i), (2, .int v)] := hl
  obtain ⟨k, hk, rfl⟩ := vp_in_of hi hn
  refine lv_iload_n hx hb dX0_put_0 rfl (lv_at hl 1 rfl) ?_
  refine lv_if_lt (tgt := 14) hx hb dX0_put_1 (by decide) (fun h => absurd h (nI_pos (by omega))) (fun _ => ?_)
  refine lv_iload_n hx hb dX0_put_4 rfl (lv_at hl 1 rfl) ?_
  refine lv_aload_n hx hb dX0_put_5 rfl (lv_at hl 0 rfl) ?_
  refine va_alen hx hb hK hP 0 0 rfl rfl (v := nI n) rfl dX0_put_6 ?_
  refine lv_icmp_ge (tgt := 14) hx hb dX0_put_7 (by decide) (fun h => absurd h (nI_ge hk hn)) (fun _ => ?_)
  refine lv_aload_n hx hb dX0_put_10 rfl (lv_at hl 0 rfl) ?_
  refine lv_iload_n hx hb dX0_put_11 rfl (lv_at hl 1 rfl) ?_
  refine lv_iload_n hx hb dX0_put_12 rfl (lv_at hl 2 rfl) ?_
  refine g_ist hx hb hK hP hD hS 0 rfl hi hv dX0_put_13 (fun H locs hP hD hS => ?_)
  exact W.vret hx hb hr (fun t ht hW => ⟨⟨(), rfl, trivial, by show gP E _ t.heap; rw [ht]; exact hP⟩, hS.F ht⟩) hS.2.2 dX0_put_14
set_option maxHeartbeats 4000000 in
set_option maxRecDepth 100000 in
theorem c_putBits (l : Launch) (E : GE) (sz q n : Nat) (f f' : Nat → Int64) (i : Int32) (v : Int64) (hi : vp_in i n) (hn : n < 2 ^ 31) (hv : vp_updL f i.toNatClampNeg v = f') : Met l yX0_putBits wsX0_putBits rmZ (va_Pc [.ref q, .int i, .long v] (gBw E sz [(q, gJ E n f)])) (gQv E [(q, gJ E n f)] [(q, gJ E n f')] sz) 0 0 (va_A [(q, gJ E n f)] sz) := by
  refine w_met (cc := cX0_putBits) (maxL := 4) (ret := none) (by decide) rfl (Nat.le_of_ble_eq_true rfl) ?_
  intro p e s m below meth c ls S hr hlocks hname hB hl
  obtain ⟨hsz, hP, hK, hD0⟩ := hB
  subst hsz
  have hD := hD0.self (sz := s.heap.size)
  have hS : va_S (va_A [(q, gJ E n f)] s.heap.size) s.heap s.heap [] := va_S.rf
  obtain ⟨hx, hb, hml, hown, hts⟩ := id S
  have hl : lv_has ls 4 [(0, .ref q), (1, .int i), (2, .long v)] := hl
  obtain ⟨k, hk, rfl⟩ := vp_in_of hi hn
  refine lv_iload_n hx hb dX0_putBits_0 rfl (lv_at hl 1 rfl) ?_
  refine lv_if_lt (tgt := 14) hx hb dX0_putBits_1 (by decide) (fun h => absurd h (nI_pos (by omega))) (fun _ => ?_)
  refine lv_iload_n hx hb dX0_putBits_4 rfl (lv_at hl 1 rfl) ?_
  refine lv_aload_n hx hb dX0_putBits_5 rfl (lv_at hl 0 rfl) ?_
  refine va_alen hx hb hK hP 0 1 rfl rfl (v := nI n) rfl dX0_putBits_6 ?_
  refine lv_icmp_ge (tgt := 14) hx hb dX0_putBits_7 (by decide) (fun h => absurd h (nI_ge hk hn)) (fun _ => ?_)
  refine lv_aload_n hx hb dX0_putBits_10 rfl (lv_at hl 0 rfl) ?_
  refine lv_iload_n hx hb dX0_putBits_11 rfl (lv_at hl 1 rfl) ?_
  refine lv_lload_n hx hb dX0_putBits_12 rfl (lv_at hl 2 rfl) ?_
  refine g_lst hx hb hK hP hD hS 0 rfl hi hv dX0_putBits_13 (fun H locs hP hD hS => ?_)
  exact W.vret hx hb hr (fun t ht hW => ⟨⟨(), rfl, trivial, by show gP E _ t.heap; rw [ht]; exact hP⟩, hS.F ht⟩) hS.2.2 dX0_putBits_14
/-- one cell of a world, at its place -/
theorem va_A_one {A : Nat → Prop} {ws : va_W} {q0 q : Nat} {x : va_E} {H0 H : Heap} {locs : List Loc} (hD : va_D A ws) (hS : va_S A H0 H locs) (hA : ∀ q, H0.size ≤ q → A q) (ha : ws[q0]? = some (q, x)) : ∀ z, va_A [(q, x)] H.size z → A z := by
  rintro z (⟨k, e, hk⟩ | h)
  · have h1 := (List.getElem?_eq_some_iff.mp hk).1
    simp only [List.length_cons, List.length_nil] at h1
    have h2 : k = 0 := by omega
    subst h2
    cases hk
    exact hD.2 q0 _ ha
  · exact hA z (Nat.le_trans hS.1 h)
theorem gP_one {E : GE} {ws : va_W} {H : Heap} {q0 q : Nat} {x : va_E} (h : gP E ws H) (ha : ws[q0]? = some (q, x)) : gP E [(q, x)] H := by
  intro k r hk
  have h1 := (List.getElem?_eq_some_iff.mp hk).1
  simp only [List.length_cons, List.length_nil] at h1
  have h2 : k = 0 := by omega
  subst h2
  cases hk
  exact h q0 _ ha
/-- the world with one cell changed, the heap elsewhere as it was -/
theorem gP_put {E : GE} {A : Nat → Prop} {ws : va_W} {H H1 : Heap} {q0 q : Nat} {x x' : va_E} (h : gP E ws H) (hD : va_D A ws) (ha : ws[q0]? = some (q, x)) (h1 : gP E [(q, x')] H1) (ho : ∀ z : Nat, z < H.size → ¬ va_A [(q, x)] H.size z → H1[z]? = H[z]?) : gP E (ws.set q0 (q, x')) H1 := by
  intro k r hk
  rw [List.getElem?_set] at hk
  by_cases hq : q0 = k
  · rw [if_pos hq] at hk
    split at hk
    · cases hk
      exact h1 0 _ rfl
    · cases hk
  · rw [if_neg hq] at hk
    have hr := h k r hk
    refine va_at.kept hr (ho r.1 (va_at.lt hr) ?_)
    rintro (⟨j, e, hj⟩ | hz)
    · have h3 := (List.getElem?_eq_some_iff.mp hj).1
      simp only [List.length_cons, List.length_nil] at h3
      have h2 : j = 0 := by omega
      subst h2
      have h4 : q = r.1 := by cases hj; rfl
      exact hq (hD.1 q0 k _ _ ha hk h4)
    · exact absurd (va_at.lt hr) (Nat.not_lt.mpr hz)
section GA
variable {p : Program} {l : Launch} {e : Env} {R : Room} {s : State} {m : MethodId} {args : Array Value} {below : List Frame} {meth : Method} {c : Code} {H H0 : Heap} {locs : List Loc} {cells slots : Nat} {Q : State → Prop} {A : Nat → Prop}
variable {cc : ByteArray} {pc nL n index : Nat} {ls : Array Slot} {rest : List Value} {E : GE} {ws : va_W} {Ts : List Cond} {own : String} {b : Nat}
theorem hdX0_at : yX0_at.cls ≠ "java/lang/invoke/MethodHandle" ∧ yX0_at.cls ≠ "java/lang/invoke/VarHandle" ∧ (parseMethodDescriptor yX0_at.desc).map (fun d => d.parameters.length) = some 2 := by decide +kernel
theorem hdX0_put : yX0_put.cls ≠ "java/lang/invoke/MethodHandle" ∧ yX0_put.cls ≠ "java/lang/invoke/VarHandle" ∧ (parseMethodDescriptor yX0_put.desc).map (fun d => d.parameters.length) = some 3 := by decide +kernel
theorem hdX0_bitsAt : yX0_bitsAt.cls ≠ "java/lang/invoke/MethodHandle" ∧ yX0_bitsAt.cls ≠ "java/lang/invoke/VarHandle" ∧ (parseMethodDescriptor yX0_bitsAt.desc).map (fun d => d.parameters.length) = some 2 := by decide +kernel
theorem hdX0_putBits : yX0_putBits.cls ≠ "java/lang/invoke/MethodHandle" ∧ yX0_putBits.cls ≠ "java/lang/invoke/VarHandle" ∧ (parseMethodDescriptor yX0_putBits.desc).map (fun d => d.parameters.length) = some 3 := by decide +kernel
theorem hdX0_bitOf : yX0_bitOf.cls ≠ "java/lang/invoke/MethodHandle" ∧ yX0_bitOf.cls ≠ "java/lang/invoke/VarHandle" ∧ (parseMethodDescriptor yX0_bitOf.desc).map (fun d => d.parameters.length) = some 1 := by decide +kernel
theorem g_at (S : CallFix p m c cc nL s args Ts own) (hg : GoodIn Ts (va_wsS own index yX0_at wsX0_at)) (hK : gK E s) (hP : gP E ws H) (q0 : Nat) {f : Nat → Int32} (ha : ws[q0]? = some (b, gI E n f)) (hn : n < 2 ^ 31) {i v : Int32} (hin : vp_in i n) (hv : f i.toNatClampNeg = v) (hsize : ls.size = nL) (hW : (rest.map fun v => v.category).sum ≤ 8) (hf : cells ≤ R.cells ∧ slots ≤ R.slots) (hR : 1 ≤ R.frames ∧ 21 ≤ R.locals) (hdg : decode cc pc = .ok (.invokestatic index, 3))
    (kk : W p l e R s m args below meth c H locs cells slots Q (F0 m (pc + 3) ls (.int v :: rest))) : W p l e R s m args below meth c H locs cells slots Q (F0 m pc ls (.int i :: .ref b :: rest)) :=
  g_si (As := [.ref b, .int i]) (rest := rest) S (c_at l E b n f i v hin hn hv) (va_cwS 2 S.2.2.2.2 hg rfl rfl rfl hdX0_at hR) hK (gP_one hP ha) rfl hsize rfl hW hf hdg kk
theorem g_bitsAt (S : CallFix p m c cc nL s args Ts own) (hg : GoodIn Ts (va_wsS own index yX0_bitsAt wsX0_bitsAt)) (hK : gK E s) (hP : gP E ws H) (q0 : Nat) {f : Nat → Int64} (ha : ws[q0]? = some (b, gJ E n f)) (hn : n < 2 ^ 31) {i : Int32} {v : Int64} (hin : vp_in i n) (hv : f i.toNatClampNeg = v) (hsize : ls.size = nL) (hW : (rest.map fun v => v.category).sum ≤ 8) (hf : cells ≤ R.cells ∧ slots ≤ R.slots) (hR : 1 ≤ R.frames ∧ 21 ≤ R.locals) (hdg : decode cc pc = .ok (.invokestatic index, 3))
    (kk : W p l e R s m args below meth c H locs cells slots Q (F0 m (pc + 3) ls (.long v :: rest))) : W p l e R s m args below meth c H locs cells slots Q (F0 m pc ls (.int i :: .ref b :: rest)) :=
  g_sl (As := [.ref b, .int i]) (rest := rest) S (c_bitsAt l E b n f i v hin hn hv) (va_cwS 2 S.2.2.2.2 hg rfl rfl rfl hdX0_bitsAt hR) hK (gP_one hP ha) rfl hsize rfl hW hf hdg kk
theorem g_bitOf (S : CallFix p m c cc nL s args Ts own) (hg : GoodIn Ts (va_wsS own index yX0_bitOf wsX0_bitOf)) (hK : gK E s) {k : Nat} (hk : k < 64) (hsize : ls.size = nL) (hW : (rest.map fun v => v.category).sum ≤ 8) (hf : cells ≤ R.cells ∧ slots ≤ R.slots) (hR : 1 ≤ R.frames ∧ 20 ≤ R.locals) (hdg : decode cc pc = .ok (.invokestatic index, 3))
    (kk : W p l e R s m args below meth c H locs cells slots Q (F0 m (pc + 3) ls (.long (gbit k) :: rest))) : W p l e R s m args below meth c H locs cells slots Q (F0 m pc ls (.int (nI k) :: rest)) :=
  g_sl (As := [.int (nI k)]) (rest := rest) S (c_bitOf l E k hk) (va_cwS 1 S.2.2.2.2 hg rfl rfl rfl hdX0_bitOf hR) hK (fun _ _ h => nomatch h) rfl hsize rfl hW hf hdg kk
theorem g_put (S : CallFix p m c cc nL s args Ts own) (hg : GoodIn Ts (va_wsS own index yX0_put wsX0_put)) (hK : gK E s) (hP : gP E ws H) (hD : va_D A ws) (hS : va_S A H0 H locs) (hA : ∀ q, H0.size ≤ q → A q) (q0 : Nat) {f f' : Nat → Int32} (ha : ws[q0]? = some (b, gI E n f)) (hn : n < 2 ^ 31) {i v : Int32} (hin : vp_in i n) (hv : upd f i.toNatClampNeg v = f') (hsize : ls.size = nL) (hW : (rest.map fun v => v.category).sum ≤ 8) (hf : cells ≤ R.cells ∧ slots ≤ R.slots) (hR : 1 ≤ R.frames ∧ 22 ≤ R.locals) (hdg : decode cc pc = .ok (.invokestatic index, 3))
    (kk : ∀ (H1 : Heap) (locs1 : List Loc), gP E (ws.set q0 (b, gI E n f')) H1 → va_D A (ws.set q0 (b, gI E n f')) → va_S A H0 H1 locs1 → W p l e R s m args below meth c H1 locs1 cells slots Q (F0 m (pc + 3) ls rest)) : W p l e R s m args below meth c H locs cells slots Q (F0 m pc ls (.int v :: .int i :: .ref b :: rest)) :=
  va_callv (va_runS (As := [.ref b, .int i, .int v]) (rest := rest) S (c_put l E H.size b n f f' i v hin hn hv) (va_cwS 3 S.2.2.2.2 hg rfl rfl rfl hdX0_put hR) (gBw_preS (gP_one hP ha) hK (gD1 (A := fun _ => True) trivial) _) rfl rfl hsize rfl (lv_room hW) hdg hf) hS (fun q _ h => va_A_one hD hS hA ha q h) (va_A_one hD hS hA ha)
    (fun _ t H1 locs1 ht _ _ hB _ ho hS1 => kk H1 locs1 (gP_put hP hD ha (by rw [← ht]; exact hB) ho) (hD.set ha) hS1)
theorem g_putBits (S : CallFix p m c cc nL s args Ts own) (hg : GoodIn Ts (va_wsS own index yX0_putBits wsX0_putBits)) (hK : gK E s) (hP : gP E ws H) (hD : va_D A ws) (hS : va_S A H0 H locs) (hA : ∀ q, H0.size ≤ q → A q) (q0 : Nat) {f f' : Nat → Int64} (ha : ws[q0]? = some (b, gJ E n f)) (hn : n < 2 ^ 31) {i : Int32} {v : Int64} (hin : vp_in i n) (hv : vp_updL f i.toNatClampNeg v = f') (hsize : ls.size = nL) (hW : (rest.map fun v => v.category).sum ≤ 8) (hf : cells ≤ R.cells ∧ slots ≤ R.slots) (hR : 1 ≤ R.frames ∧ 23 ≤ R.locals) (hdg : decode cc pc = .ok (.invokestatic index, 3))
    (kk : ∀ (H1 : Heap) (locs1 : List Loc), gP E (ws.set q0 (b, gJ E n f')) H1 → va_D A (ws.set q0 (b, gJ E n f')) → va_S A H0 H1 locs1 → W p l e R s m args below meth c H1 locs1 cells slots Q (F0 m (pc + 3) ls rest)) : W p l e R s m args below meth c H locs cells slots Q (F0 m pc ls (.long v :: .int i :: .ref b :: rest)) :=
  va_callv (va_runS (As := [.ref b, .int i, .long v]) (rest := rest) S (c_putBits l E H.size b n f f' i v hin hn hv) (va_cwS 3 S.2.2.2.2 hg rfl rfl rfl hdX0_putBits hR) (gBw_preS (gP_one hP ha) hK (gD1 (A := fun _ => True) trivial) _) rfl rfl hsize rfl (lv_room hW) hdg hf) hS (fun q _ h => va_A_one hD hS hA ha q h) (va_A_one hD hS hA ha)
    (fun _ t H1 locs1 ht _ _ hB _ ho hS1 => kk H1 locs1 (gP_put hP hD ha (by rw [← ht]; exact hB) ho) (hD.set ha) hS1)
end GA
end
section
/-! how many bits of a long are set: Long.bitCount -/
theorem bc_and (x y m M : Nat) (hx : x < 256) (hm : m < 256) : (x + 256 * y) &&& (m + 256 * M) = (x &&& m) + 256 * (y &&& M) := by
  have h1 : ((x + 256 * y) &&& (m + 256 * M)) % 2 ^ 8 = x &&& m := by
    rw [Nat.and_mod_two_pow, show (x + 256 * y) % 2 ^ 8 = x by omega, show (m + 256 * M) % 2 ^ 8 = m by omega]
  have h2 : ((x + 256 * y) &&& (m + 256 * M)) / 2 ^ 8 = y &&& M := by
    rw [Nat.and_div_two_pow, show (x + 256 * y) / 2 ^ 8 = y by omega, show (m + 256 * M) / 2 ^ 8 = M by omega]
  have h3 := Nat.mod_add_div ((x + 256 * y) &&& (m + 256 * M)) (2 ^ 8)
  rw [h1, h2] at h3
  exact h3.symm
def bcR (m : Nat) : Nat → Nat
  | 0 => 0
  | k + 1 => m + 256 * bcR m k
def bc1 (k u : Nat) : Nat := u - (u / 2 &&& bcR 85 k)
def bc2 (k u : Nat) : Nat := (u &&& bcR 51 k) + (u / 4 &&& bcR 51 k)
def bc3 (k u : Nat) : Nat := (u + u / 16) &&& bcR 15 k
def bc8 (u : Nat) : Nat := (((u - (u / 2 &&& 85)) &&& 51) + ((u - (u / 2 &&& 85)) / 4 &&& 51) + (((u - (u / 2 &&& 85)) &&& 51) + ((u - (u / 2 &&& 85)) / 4 &&& 51)) / 16) &&& 15
theorem bc_d1 : ∀ x, x < 256 → ∀ t, t < 2 → (x / 2 + 128 * t) &&& 85 = x / 2 &&& 85 := by decide +kernel
theorem bc_d2 : ∀ x, x < 256 → ∀ t, t < 4 → (x / 4 + 64 * t) &&& 51 = x / 4 &&& 51 := by decide +kernel
theorem bc_d3 : ∀ x, x < 110 → ∀ t, t < 8 → (x + 16 * t) &&& 15 = x &&& 15 := by decide +kernel
theorem bc_d4 : ∀ x, x < 256 → bc8 x = fb_ct (fun i => x.testBit i) 8 ∧ bc8 x ≤ 8 := by decide +kernel
theorem bc_d5 : ∀ x, x < 256 → x - (x / 2 &&& 85) < 256 ∧ (x &&& 51) + (x / 4 &&& 51) ≤ 102 := by decide +kernel
theorem bc1_s (k x y : Nat) (h : x < 256) : bc1 (k + 1) (x + 256 * y) = (x - (x / 2 &&& 85)) + 256 * bc1 k y := by
  have e : (x + 256 * y) / 2 = (x / 2 + 128 * (y % 2)) + 256 * (y / 2) := by omega
  have l1 : x / 2 &&& 85 ≤ x / 2 := Nat.and_le_left
  have l2 : y / 2 &&& bcR 85 k ≤ y / 2 := Nat.and_le_left
  rw [bc1, bcR, e, bc_and _ _ _ _ (by omega) (by decide), bc_d1 x h (y % 2) (by omega), bc1]
  omega
theorem bc2_s (k x y : Nat) (h : x < 256) : bc2 (k + 1) (x + 256 * y) = ((x &&& 51) + (x / 4 &&& 51)) + 256 * bc2 k y := by
  have e : (x + 256 * y) / 4 = (x / 4 + 64 * (y % 4)) + 256 * (y / 4) := by omega
  rw [bc2, bcR, e, bc_and _ _ _ _ h (by decide), bc_and _ _ _ _ (by omega) (by decide), bc_d2 x h (y % 4) (by omega), bc2]
  omega
theorem bc2_n (k u : Nat) : bc2 k u % 16 ≤ 6 := by
  have h0 : bcR 51 k % 2 ^ 4 ≤ 3 := by
    cases k with
    | zero => decide
    | succ k => rw [bcR]; omega
  have h1 : (u &&& bcR 51 k) % 2 ^ 4 ≤ 3 := by
    rw [Nat.and_mod_two_pow]
    exact Nat.le_trans Nat.and_le_right h0
  have h2 : (u / 4 &&& bcR 51 k) % 2 ^ 4 ≤ 3 := by
    rw [Nat.and_mod_two_pow]
    exact Nat.le_trans Nat.and_le_right h0
  rw [bc2]
  omega
theorem bc3_s (k x y : Nat) (h : x ≤ 102) (hy : y % 16 ≤ 6) : bc3 (k + 1) (x + 256 * y) = ((x + x / 16) &&& 15) + 256 * bc3 k y := by
  have e : (x + 256 * y) + (x + 256 * y) / 16 = ((x + x / 16) + 16 * (y % 16)) + 256 * (y + y / 16) := by omega
  rw [bc3, bcR, e, bc_and _ _ _ _ (by omega) (by decide), bc_d3 _ (by omega) (y % 16) (by omega), bc3]
def bcF (k u : Nat) : Nat := bc3 k (bc2 k (bc1 k u))
theorem bcF_s (k u : Nat) : bcF (k + 1) u = bc8 (u % 256) + 256 * bcF k (u / 256) := by
  have h : u % 256 < 256 := Nat.mod_lt _ (by decide)
  have d := bc_d5 (u % 256) h
  have e : u = u % 256 + 256 * (u / 256) := by omega
  rw [bcF]
  conv => lhs; rw [e]
  rw [bc1_s k _ _ h, bc2_s k _ _ d.1, bc3_s k _ _ (bc_d5 _ d.1).2 (bc2_n _ _)]
  rfl
theorem bcF_0 (u : Nat) : bcF 0 u = 0 := by rw [bcF, bc3, bcR, Nat.and_zero]
/-- the bytes' counts, as digits -/
theorem bcF_ct : ∀ (k u : Nat), bcF k u % 256 ≤ 8
  | 0, u => by rw [bcF_0]; decide
  | k + 1, u => by
    have := (bc_d4 (u % 256) (Nat.mod_lt _ (by decide))).2
    rw [bcF_s]
    omega
theorem ct_byte (u n : Nat) : fb_ct (fun i => u.testBit i) (8 + n) = bc8 (u % 256) + fb_ct (fun i => (u / 256).testBit i) n := by
  rw [fb_ct_split, (bc_d4 (u % 256) (Nat.mod_lt _ (by decide))).1]
  congr 1
  · refine fb_ct_cong (fun k hk => ?_)
    show u.testBit k = (u % 2 ^ 8).testBit k
    rw [Nat.testBit_mod_two_pow, decide_eq_true hk, Bool.true_and]
  · refine fb_ct_cong (fun k hk => ?_)
    show u.testBit (8 + k) = (u / 2 ^ 8).testBit k
    rw [Nat.testBit_div_two_pow, Nat.add_comm]
theorem bc_q (n x y : Nat) (h0 : 0 < n) (h : x < n) : (x + n * y) / n = y := by
  rw [Nat.add_mul_div_left _ _ h0, Nat.div_eq_of_lt h, Nat.zero_add]
/-- two digits of a sum of a number and its shift -/
theorem bc_w (a b c z : Nat) : (a + 256 * (b + 256 * (c + 256 * z))) + (b + 256 * (c + 256 * z)) = ((a + b) + 256 * (b + c)) + 65536 * ((c + 256 * z) + z) := by omega
theorem bc_x (p q r t y : Nat) : (p + 256 * q + 65536 * (r + 256 * t + 65536 * y)) + (r + 256 * t + 65536 * y) = ((p + r) + 256 * (q + t) + 65536 * r + 16777216 * t) + 65536 * y + 4294967296 * y := by omega
theorem bc_x2 (p q r t p2 q2 y : Nat) : ((p + r) + 256 * (q + t) + 65536 * r + 16777216 * t) + 65536 * (p2 + 256 * q2 + 65536 * y) + 4294967296 * (p2 + 256 * q2 + 65536 * y) = ((p + r) + 256 * (q + t) + 65536 * (r + p2) + 16777216 * (t + q2)) + 4294967296 * (y + (p2 + 256 * q2 + 65536 * y)) := by omega
theorem bc_m (x y z : Nat) : (x + 256 * y + 65536 * z) % 128 = x % 128 := by omega
theorem bc_sum (c0 c1 c2 c3 c4 c5 c6 c7 : Nat) (h0 : c0 ≤ 8) (h1 : c1 ≤ 8) (h2 : c2 ≤ 8) (h3 : c3 ≤ 8) (h4 : c4 ≤ 8) (h5 : c5 ≤ 8) (h6 : c6 ≤ 8) (h7 : c7 ≤ 8) (V : Nat)
    (eV : V = c0 + 256 * (c1 + 256 * (c2 + 256 * (c3 + 256 * (c4 + 256 * (c5 + 256 * (c6 + 256 * (c7 + 256 * 0)))))))) :
    ((V + V / 256 + (V + V / 256) / 65536) + (V + V / 256 + (V + V / 256) / 65536) / 4294967296) % 128 = c0 + (c1 + (c2 + (c3 + (c4 + (c5 + (c6 + (c7 + 0))))))) := by
  have d1 : V / 256 = c1 + 256 * (c2 + 256 * (c3 + 256 * (c4 + 256 * (c5 + 256 * (c6 + 256 * (c7 + 256 * 0)))))) := by
    rw [eV]; exact bc_q 256 c0 _ (by decide) (by omega)
  have d2 : V + V / 256 = ((c0 + c1) + 256 * (c1 + c2)) + 65536 * (((c2 + c3) + 256 * (c3 + c4)) + 65536 * (((c4 + c5) + 256 * (c5 + c6)) + 65536 * ((c6 + 256 * (c7 + 256 * 0)) + (c7 + 256 * 0)))) := by
    rw [d1, eV, bc_w, bc_w, bc_w]
  have d3 : (V + V / 256) / 65536 = ((c2 + c3) + 256 * (c3 + c4)) + 65536 * (((c4 + c5) + 256 * (c5 + c6)) + 65536 * ((c6 + 256 * (c7 + 256 * 0)) + (c7 + 256 * 0))) := by
    rw [d2]; exact bc_q 65536 _ _ (by decide) (by omega)
  have d4 : V + V / 256 + (V + V / 256) / 65536 = ((c0 + c1 + (c2 + c3)) + 256 * (c1 + c2 + (c3 + c4)) + 65536 * ((c2 + c3) + (c4 + c5)) + 16777216 * ((c3 + c4) + (c5 + c6))) + 4294967296 * (((c6 + 256 * (c7 + 256 * 0)) + (c7 + 256 * 0)) + ((c4 + c5) + 256 * (c5 + c6) + 65536 * ((c6 + 256 * (c7 + 256 * 0)) + (c7 + 256 * 0)))) := by
    rw [d3, d2, bc_x, bc_x2]
  have d5 : (V + V / 256 + (V + V / 256) / 65536) / 4294967296 = ((c6 + 256 * (c7 + 256 * 0)) + (c7 + 256 * 0)) + ((c4 + c5) + 256 * (c5 + c6) + 65536 * ((c6 + 256 * (c7 + 256 * 0)) + (c7 + 256 * 0))) := by
    rw [d4]; exact bc_q 4294967296 _ _ (by decide) (by omega)
  rw [d5, d4]
  clear d1 d2 d3 d4 d5 eV
  omega
theorem bc_end (u : Nat) : ((bcF 8 u + bcF 8 u / 256 + (bcF 8 u + bcF 8 u / 256) / 65536) + (bcF 8 u + bcF 8 u / 256 + (bcF 8 u + bcF 8 u / 256) / 65536) / 4294967296) % 128 = fb_ct (fun i => u.testBit i) 64 := by
  have h (x : Nat) : bc8 (x % 256) ≤ 8 := (bc_d4 (x % 256) (Nat.mod_lt _ (by decide))).2
  rw [show 64 = 8 + (8 + (8 + (8 + (8 + (8 + (8 + (8 + 0))))))) from rfl]
  simp only [ct_byte]
  rw [show fb_ct (fun i => (u / 256 / 256 / 256 / 256 / 256 / 256 / 256 / 256).testBit i) 0 = 0 from rfl]
  exact bc_sum _ _ _ _ _ _ _ _ (h _) (h _) (h _) (h _) (h _) (h _) (h _) (h _) _
    (by rw [bcF_s 7, bcF_s 6, bcF_s 5, bcF_s 4, bcF_s 3, bcF_s 2, bcF_s 1, bcF_s 0, bcF_0])
/-- how many bits are set -/
def popc (x : Int64) : Int32 := nI (fb_ct (fun i => x.toBitVec.getLsbD i) 64)
theorem popc_lN (u : Nat) : popc (lN u) = nI (fb_ct (fun i => u.testBit i) 64) := by
  rw [popc]
  congr 1
  refine fb_ct_cong (fun i hi => ?_)
  rw [lN_bv, BitVec.getLsbD_ofNat, decide_eq_true hi, Bool.true_and]
theorem hdJ13_bitCount_95d88 : yJ13_bitCount_95d88.cls = RJ13 ∧ yJ13_bitCount_95d88.cls ≠ "java/lang/invoke/MethodHandle" ∧ yJ13_bitCount_95d88.cls ≠ "java/lang/invoke/VarHandle" ∧ (parseMethodDescriptor yJ13_bitCount_95d88.desc).map (fun d => d.parameters.length) = some 1 := by decide +kernel
set_option maxHeartbeats 4000000 in
set_option maxRecDepth 100000 in
theorem c_bitCount (l : Launch) (E : GE) (x : Int64) : Met l yJ13_bitCount_95d88 wsJ13_bitCount_95d88 rmZ (va_Pc [.long x] (gB E [])) (vp_Si (fun r => r = popc x)) 0 0 (fun _ => False) := by
  refine w_met (cc := cJ13_bitCount_95d88) (maxL := 2) (ret := some .int) (by decide) rfl (Nat.le_of_ble_eq_true rfl) ?_
  intro p e s m below meth c ls S hr hlocks hname hB hl
  obtain ⟨hx, hb, hml, hown, hts⟩ := id S
  have hl : lv_has ls 2 [(0, .long x)] := hl
  obtain ⟨u, hu, rfl⟩ := wb_of x
  have k5 : bcR 85 8 = 6148914691236517205 := by decide
  have k3 : bcR 51 8 = 3689348814741910323 := by decide
  have kf : bcR 15 8 = 1085102592571150095 := by decide
  have b1 : bc1 8 u ≤ u := Nat.sub_le _ _
  have b2 : bc2 8 (bc1 8 u) ≤ 2 * 3689348814741910323 := by
    have q1 : bc1 8 u &&& bcR 51 8 ≤ bcR 51 8 := Nat.and_le_right
    have q2 : bc1 8 u / 4 &&& bcR 51 8 ≤ bcR 51 8 := Nat.and_le_right
    rw [k3] at q1 q2
    rw [bc2, k3]
    omega
  have b3 : bcF 8 u ≤ 1085102592571150095 := by
    rw [bcF, bc3, kf]
    exact Nat.and_le_right
  refine lv_lload_n hx hb dJ13_bitCount_95d88_0 rfl (lv_at hl 0 rfl) ?_
  refine lv_lload_n hx hb dJ13_bitCount_95d88_1 rfl (lv_at hl 0 rfl) ?_
  refine lv_iconst (v := nI 1) hx hb dJ13_bitCount_95d88_2 (by decide) ?_
  refine lv_lushr (v := lN (u / 2)) hx hb dJ13_bitCount_95d88_3 (wb_shr hu (by decide)) ?_
  refine lv_ldc2 (v := 6148914691236517205) hx hb hown (hts (.constantLong RJ13 314 (6148914691236517205)) (by decide +kernel)) dJ13_bitCount_95d88_4 ?_
  refine lv_land hx hb dJ13_bitCount_95d88_7 ?_
  refine lv_lsub hx hb dJ13_bitCount_95d88_8 ?_
  have e1 : lN u - (lN (u / 2) &&& 6148914691236517205) = lN (bc1 8 u) := by
    rw [show (6148914691236517205 : Int64) = lN 6148914691236517205 from rfl, wb_and (by omega) (by decide), lN_sub (Nat.le_trans Nat.and_le_left (by omega)), bc1, k5]
  rw [e1]
  refine lv_lstore_n (lv' := [(0, .long (lN (bc1 8 u)))]) hx hb dJ13_bitCount_95d88_9 rfl hl (by decide) rfl (fun ls hl => ?_)
  refine lv_lload_n hx hb dJ13_bitCount_95d88_10 rfl (lv_at hl 0 rfl) ?_
  refine lv_ldc2 (v := 3689348814741910323) hx hb hown (hts (.constantLong RJ13 316 (3689348814741910323)) (by decide +kernel)) dJ13_bitCount_95d88_11 ?_
  refine lv_land hx hb dJ13_bitCount_95d88_14 ?_
  refine lv_lload_n hx hb dJ13_bitCount_95d88_15 rfl (lv_at hl 0 rfl) ?_
  refine lv_iconst (v := nI 2) hx hb dJ13_bitCount_95d88_16 (by decide) ?_
  refine lv_lushr (v := lN (bc1 8 u / 4)) hx hb dJ13_bitCount_95d88_17 (wb_shr (by omega) (by decide)) ?_
  refine lv_ldc2 (v := 3689348814741910323) hx hb hown (hts (.constantLong RJ13 316 (3689348814741910323)) (by decide +kernel)) dJ13_bitCount_95d88_18 ?_
  refine lv_land hx hb dJ13_bitCount_95d88_21 ?_
  refine lv_ladd hx hb dJ13_bitCount_95d88_22 ?_
  have e2 : (lN (bc1 8 u) &&& 3689348814741910323) + (lN (bc1 8 u / 4) &&& 3689348814741910323) = lN (bc2 8 (bc1 8 u)) := by
    rw [show (3689348814741910323 : Int64) = lN 3689348814741910323 from rfl, wb_and (by omega) (by decide), wb_and (by omega) (by decide), lN_add, bc2, k3]
  rw [e2]
  refine lv_lstore_n (lv' := [(0, .long (lN (bc2 8 (bc1 8 u))))]) hx hb dJ13_bitCount_95d88_23 rfl hl (by decide) rfl (fun ls hl => ?_)
  refine lv_lload_n hx hb dJ13_bitCount_95d88_24 rfl (lv_at hl 0 rfl) ?_
  refine lv_lload_n hx hb dJ13_bitCount_95d88_25 rfl (lv_at hl 0 rfl) ?_
  refine lv_iconst (v := nI 4) hx hb dJ13_bitCount_95d88_26 (by decide) ?_
  refine lv_lushr (v := lN (bc2 8 (bc1 8 u) / 16)) hx hb dJ13_bitCount_95d88_27 (wb_shr (by omega) (by decide)) ?_
  refine lv_ladd hx hb dJ13_bitCount_95d88_28 ?_
  refine lv_ldc2 (v := 1085102592571150095) hx hb hown (hts (.constantLong RJ13 318 (1085102592571150095)) (by decide +kernel)) dJ13_bitCount_95d88_29 ?_
  refine lv_land hx hb dJ13_bitCount_95d88_32 ?_
  have e3 : (lN (bc2 8 (bc1 8 u)) + lN (bc2 8 (bc1 8 u) / 16)) &&& 1085102592571150095 = lN (bcF 8 u) := by
    rw [show (1085102592571150095 : Int64) = lN 1085102592571150095 from rfl, lN_add, wb_and (by omega) (by decide), bcF, bc3, kf]
  rw [e3]
  generalize hf : bcF 8 u = f at b3 ⊢
  refine lv_lstore_n (lv' := [(0, .long (lN f))]) hx hb dJ13_bitCount_95d88_33 rfl hl (by decide) rfl (fun ls hl => ?_)
  refine lv_lload_n hx hb dJ13_bitCount_95d88_34 rfl (lv_at hl 0 rfl) ?_
  refine lv_lload_n hx hb dJ13_bitCount_95d88_35 rfl (lv_at hl 0 rfl) ?_
  refine lv_bipush (v := nI 8) hx hb dJ13_bitCount_95d88_36 (by decide) ?_
  refine lv_lushr (v := lN (f / 256)) hx hb dJ13_bitCount_95d88_38 (wb_shr (by omega) (by decide)) ?_
  refine lv_ladd hx hb dJ13_bitCount_95d88_39 ?_
  rw [lN_add]
  refine lv_lstore_n (lv' := [(0, .long (lN (f + f / 256)))]) hx hb dJ13_bitCount_95d88_40 rfl hl (by decide) rfl (fun ls hl => ?_)
  refine lv_lload_n hx hb dJ13_bitCount_95d88_41 rfl (lv_at hl 0 rfl) ?_
  refine lv_lload_n hx hb dJ13_bitCount_95d88_42 rfl (lv_at hl 0 rfl) ?_
  refine lv_bipush (v := nI 16) hx hb dJ13_bitCount_95d88_43 (by decide) ?_
  refine lv_lushr (v := lN ((f + f / 256) / 65536)) hx hb dJ13_bitCount_95d88_45 (wb_shr (by omega) (by decide)) ?_
  refine lv_ladd hx hb dJ13_bitCount_95d88_46 ?_
  rw [lN_add]
  refine lv_lstore_n (lv' := [(0, .long (lN (f + f / 256 + (f + f / 256) / 65536)))]) hx hb dJ13_bitCount_95d88_47 rfl hl (by decide) rfl (fun ls hl => ?_)
  refine lv_lload_n hx hb dJ13_bitCount_95d88_48 rfl (lv_at hl 0 rfl) ?_
  refine lv_lload_n hx hb dJ13_bitCount_95d88_49 rfl (lv_at hl 0 rfl) ?_
  refine lv_bipush (v := nI 32) hx hb dJ13_bitCount_95d88_50 (by decide) ?_
  refine lv_lushr (v := lN ((f + f / 256 + (f + f / 256) / 65536) / 4294967296)) hx hb dJ13_bitCount_95d88_52 (wb_shr (by omega) (by decide)) ?_
  refine lv_ladd hx hb dJ13_bitCount_95d88_53 ?_
  rw [lN_add]
  refine lv_lstore_n (lv' := [(0, .long (lN (f + f / 256 + (f + f / 256) / 65536 + (f + f / 256 + (f + f / 256) / 65536) / 4294967296)))]) hx hb dJ13_bitCount_95d88_54 rfl hl (by decide) rfl (fun ls hl => ?_)
  refine lv_lload_n hx hb dJ13_bitCount_95d88_55 rfl (lv_at hl 0 rfl) ?_
  refine lv_l2i hx hb dJ13_bitCount_95d88_56 (lN_i _) ?_
  refine lv_bipush (v := nI 127) hx hb dJ13_bitCount_95d88_57 (by decide) ?_
  refine lv_iand hx hb dJ13_bitCount_95d88_59 ?_
  refine W.iret hx hb hr (fun t ht hW => ⟨_, rfl, ?_, ht⟩) (fun _ h => nomatch h) dJ13_bitCount_95d88_60
  rw [nx_and, show (127 : Nat) = 2 ^ 7 - 1 from rfl, Nat.and_two_pow_sub_one_eq_mod, popc_lN, ← hf]
  exact congrArg nI (bc_end u)
end
section

/-! ExamGarden's methods that change nothing, told of the state -/
def gTo (σ : GS) (k : Nat) (b : Bool) : Nat := if b then grt σ k else glf σ k
/-- the risk of a path at fork k -/
def gRisk (σ : GS) (k : Nat) (b : Bool) : Int32 := imx 0 (gho σ (gTo σ k (!b)) - gsu σ (gTo σ k b)) * gwt σ k
def gPl (σ : GS) (k : Nat) : Bool := decide (gRisk σ k true < gRisk σ k false)
def gSm (σ : GS) (k : Nat) : Int32 := imn (gRisk σ k false) (gRisk σ k true)
def gHas (σ : GS) (k : Nat) : Bool := !decide (ggr σ k = -1)
/-- what student s regrets of the fork passed as the j-th -/
def gReg (σ : GS) (s j : Nat) : Int32 := imx 0 (ghs σ (gpf σ (s * 40 + j)) - ggr σ (gst σ s)) * gwt σ (gpf σ (s * 40 + j))
def sumI (f : Nat → Int32) : Nat → Int32
  | 0 => 0
  | n + 1 => sumI f n + f n
/-- the first of the greatest, and how great it is -/
def amx (w f : Nat → Int32) (z : Int32 × Int32) : Nat → Int32 × Int32
  | 0 => z
  | n + 1 => if (amx w f z n).2 < f n then (w n, f n) else amx w f z n
theorem amx_ge (w f : Nat → Int32) : ∀ n, (-1 : Int32) ≤ (amx w f (-1, -1) n).2
  | 0 => by show (-1 : Int32) ≤ -1; decide
  | n + 1 => by
    have ih := amx_ge w f n
    rw [amx]
    split
    · rename_i h
      exact Int32.le_of_lt (Int32.lt_of_le_of_lt ih h)
    · exact ih
def gRegs (σ : GS) (s : Nat) : Int32 := sumI (gReg σ s) (gpc σ s)
def gLd (σ : GS) : Nat → Nat → Nat
  | 0, p => p
  | f + 1, p => if gEx (ge σ) p then p else gLd σ f (gTo σ p (gPl σ p))
def gAtE (σ : GS) : Int32 := sumI (fun s => b2i (gEx (ge σ) (gst σ s))) (gk σ)
def gAll (σ : GS) : Int32 := sumI (fun s => if gHas σ (gst σ s) then gRegs σ s else 0) (gk σ)
def gRf (σ : GS) : Int32 × Int32 := amx nI (fun p => if gEx (ge σ) p then -1 else gSm σ p) (-1, -1) (gn σ)
def gWf (σ : GS) (s : Nat) : Int32 × Int32 := amx (fun j => nI (gpf σ (s * 40 + j))) (gReg σ s) (-1, 0) (gpc σ s)
def hsh (d : Int64) (x : Int32) : Int64 := d * 31 + x.toInt64
def gEf (σ : GS) (p : Nat) : Int32 := popc (grb σ p &&& ge σ)
def gPd0 (σ : GS) (d : Int64) (p : Nat) : Int64 := hsh (hsh (hsh (hsh (hsh d (b2i (gEx (ge σ) p))) (gsu σ p)) (gho σ p)) (gEf σ p)) (nI (gLd σ 40 p))
def gPd (σ : GS) (d : Int64) (p : Nat) : Int64 := if gEx (ge σ) p then hsh (gPd0 σ d p) (ggr σ p) else hsh (hsh (hsh (hsh (gPd0 σ d p) (nI (glf σ p))) (nI (grt σ p))) (gwt σ p)) (ghs σ p)
def gDp (σ : GS) (d : Int64) : Nat → Int64
  | 0 => d
  | n + 1 => gPd σ (gDp σ d n) n
def gDs (σ : GS) (d : Int64) : Nat → Int64
  | 0 => d
  | n + 1 => hsh (hsh (gDs σ d n) (nI (gst σ n))) (nI (gpc σ n))
def gD0 (σ : GS) : Int64 := hsh (hsh (hsh (hsh (hsh (hsh (hsh 1039 (nI (gn σ))) (popc (ge σ))) (gc σ)) (nI (gk σ))) (gAtE σ)) (gRf σ).1) (gAll σ)
def gDig (σ : GS) : Int64 := gDs σ (gDp σ (gD0 σ) (gn σ)) (gk σ)
/-- what always holds of the rows -/
def GOK (σ : GS) : Prop := gn σ ≤ 40 ∧ gk σ ≤ 8 ∧ (∀ j, glf σ j < 40) ∧ (∀ j, grt σ j < 40) ∧ (∀ j, gst σ j < 40) ∧ (∀ j, gpf σ j < 40) ∧ (∀ j, gst σ j + gpc σ j ≤ 39) ∧ (∀ p, p < gn σ → gEx (ge σ) p = false → glf σ p < p ∧ grt σ p < p) ∧ (∀ s, s < gk σ → gst σ s < gn σ)
theorem gTo_lt {σ : GS} (h : GOK σ) (k : Nat) (b : Bool) : gTo σ k b < 40 := by
  unfold gTo
  split
  · exact h.2.2.2.1 k
  · exact h.2.2.1 k
section GMX
variable {p : Program} {l : Launch} {e : Env} {R : Room} {s : State} {m : MethodId} {args : Array Value} {below : List Frame} {meth : Method} {c : Code} {H : Heap} {locs : List Loc} {cells slots : Nat} {Q : State → Prop}
variable {cc : ByteArray} {pc index : Nat} {ls : Array Slot} {rest : List Value} {own : String}
theorem g_max (hx : p.tables.exec = Jvm.exec) (hb : c.code = cc) (hml : c.maxLocals = ls.size) (hown : s.vm.findClass own = some m.cls) (hlink : (Cond.methodLink own index Lib.Math.max.name).before args s = true) (hstat : (Cond.static Lib.Math.max.name).before args s = true) (hini : (Cond.initialized "java/lang/Math").before args s = true) (hcode : (Cond.code Lib.Math.max.name Lib.Math.max.code 2 (some .int)).before args s = true)
    (hframes : 1 ≤ R.frames) (hlocals : (rest.map fun v => v.category).sum + 13 ≤ R.locals) (hf : cells ≤ R.cells ∧ slots ≤ R.slots) {x y : Int32} (hdg : decode cc pc = .ok (.invokestatic index, 3))
    (kk : W p l e R s m args below meth c H locs cells slots Q (F0 m (pc + 3) ls (.int (imx x y) :: rest))) : W p l e R s m args below meth c H locs cells slots Q (F0 m pc ls (.int y :: .int x :: rest)) :=
  va_mmax hx hb hml hown hlink hstat hini hcode hframes hlocals hf.1 hf.2 hdg kk
theorem g_min (hx : p.tables.exec = Jvm.exec) (hb : c.code = cc) (hml : c.maxLocals = ls.size) (hown : s.vm.findClass own = some m.cls) (hlink : (Cond.methodLink own index Lib.Math.min.name).before args s = true) (hstat : (Cond.static Lib.Math.min.name).before args s = true) (hini : (Cond.initialized "java/lang/Math").before args s = true) (hcode : (Cond.code Lib.Math.min.name Lib.Math.min.code 2 (some .int)).before args s = true)
    (hframes : 1 ≤ R.frames) (hlocals : (rest.map fun v => v.category).sum + 13 ≤ R.locals) (hf : cells ≤ R.cells ∧ slots ≤ R.slots) {x y : Int32} (hdg : decode cc pc = .ok (.invokestatic index, 3))
    (kk : W p l e R s m args below meth c H locs cells slots Q (F0 m (pc + 3) ls (.int (imn x y) :: rest))) : W p l e R s m args below meth c H locs cells slots Q (F0 m pc ls (.int y :: .int x :: rest)) :=
  va_mmin hx hb hml hown hlink hstat hini hcode hframes hlocals hf.1 hf.2 hdg kk
end GMX
theorem hinX0_holdsExam : ∀ w ∈ wsX00, w ∈ wsX0_holdsExam := fun w h => List.mem_cons_of_mem _ (List.mem_append_right _ h)
theorem hdX0_holdsExam : yX0_holdsExam.cls = RX0 ∧ yX0_holdsExam.cls ≠ "java/lang/invoke/MethodHandle" ∧ yX0_holdsExam.cls ≠ "java/lang/invoke/VarHandle" ∧ (parseMethodDescriptor yX0_holdsExam.desc).map (fun d => d.parameters.length) = some 1 := by decide +kernel
set_option maxHeartbeats 4000000 in
set_option maxRecDepth 100000 in
theorem c_holdsExam (l : Launch) (E : GE) (a : Nat → Nat) (σ : GS) (k : Nat) (hk : k < 64) : Met l yX0_holdsExam wsX0_holdsExam { frames := 1, cells := 0, slots := 0, locals := 20 } (va_Pc [.ref (a 0), .int (nI k)] (gB E (gW E a σ))) (vp_Si (fun r => r = b2i (gEx (ge σ) k))) 0 0 (fun _ => False) := by
  refine w_met (cc := cX0_holdsExam) (maxL := 2) (ret := (some .boolean)) (by decide) rfl (Nat.le_of_ble_eq_true rfl) ?_
  intro p e s m below meth c ls S hr hlocks hname hB hl
  obtain ⟨hP, hK⟩ := hB
  obtain ⟨hx, hb, hml, hown, hts⟩ := id S
  have hts0 := hinX0_holdsExam
  have hl : lv_has ls 2 [(0, .ref (a 0)), (1, .int (nI k))] := hl
  refine lv_aload_n hx hb dX0_holdsExam_0 rfl (lv_at hl 0 rfl) ?_
  refine g_get (σ := σ) hx hb hts hts0 hown hK hP 4 (by decide) (by decide +kernel) rfl rfl dX0_holdsExam_1 ?_
  refine lv_iload_n hx hb dX0_holdsExam_4 rfl (lv_at hl 1 rfl) ?_
  refine g_bitOf S gX0_holdsExam_X0_bitOf hK (k := k) (by omega) hl.1 (Nat.le_of_ble_eq_true rfl) ⟨Nat.zero_le _, Nat.zero_le _⟩ ⟨Nat.le_of_ble_eq_true rfl, Nat.le_of_ble_eq_true rfl⟩ dX0_holdsExam_5 ?_
  refine lv_land hx hb dX0_holdsExam_8 ?_
  refine lv_lconst (v := 0) hx hb dX0_holdsExam_9 (by decide) ?_
  refine W.lcmp hx hb dX0_holdsExam_10 ?_
  refine lv_if_eq (tgt := 18) hx hb dX0_holdsExam_11 (by decide) (fun c11 => ?_) (fun c11 => ?_)
  · refine lv_iconst (v := 0) hx hb dX0_holdsExam_18 (by decide) ?_
    exact W.zret hx hb hr rfl (fun t ht hW => ⟨_, rfl, (by first | (rw [gEx, decide_eq_true ((lg_cmp_eq _ _).mp c11)]; rfl) | (rw [gEx, decide_eq_false (fun h => c11 ((lg_cmp_eq _ _).mpr h))]; rfl)), ht⟩) (fun _ h => nomatch h) dX0_holdsExam_19
  · refine lv_iconst (v := 1) hx hb dX0_holdsExam_14 (by decide) ?_
    refine lv_goto (tgt := 19) hx hb dX0_holdsExam_15 (by decide) ?_
    exact W.zret hx hb hr rfl (fun t ht hW => ⟨_, rfl, (by first | (rw [gEx, decide_eq_true ((lg_cmp_eq _ _).mp c11)]; rfl) | (rw [gEx, decide_eq_false (fun h => c11 ((lg_cmp_eq _ _).mpr h))]; rfl)), ht⟩) (fun _ h => nomatch h) dX0_holdsExam_19
theorem hinX0_hasGrade : ∀ w ∈ wsX00, w ∈ wsX0_hasGrade := fun w h => List.mem_cons_of_mem _ (List.mem_append_right _ h)
theorem hdX0_hasGrade : yX0_hasGrade.cls = RX0 ∧ yX0_hasGrade.cls ≠ "java/lang/invoke/MethodHandle" ∧ yX0_hasGrade.cls ≠ "java/lang/invoke/VarHandle" ∧ (parseMethodDescriptor yX0_hasGrade.desc).map (fun d => d.parameters.length) = some 1 := by decide +kernel
set_option maxHeartbeats 4000000 in
set_option maxRecDepth 100000 in
theorem c_hasGrade (l : Launch) (E : GE) (a : Nat → Nat) (σ : GS) (k : Nat) (hk : k < 40) : Met l yX0_hasGrade wsX0_hasGrade { frames := 1, cells := 0, slots := 0, locals := 21 } (va_Pc [.ref (a 0), .int (nI k)] (gB E (gW E a σ))) (vp_Si (fun r => r = b2i (gHas σ k))) 0 0 (fun _ => False) := by
  refine w_met (cc := cX0_hasGrade) (maxL := 2) (ret := (some .boolean)) (by decide) rfl (Nat.le_of_ble_eq_true rfl) ?_
  intro p e s m below meth c ls S hr hlocks hname hB hl
  obtain ⟨hP, hK⟩ := hB
  obtain ⟨hx, hb, hml, hown, hts⟩ := id S
  have hts0 := hinX0_hasGrade
  have hl : lv_has ls 2 [(0, .ref (a 0)), (1, .int (nI k))] := hl
  refine lv_aload_n hx hb dX0_hasGrade_0 rfl (lv_at hl 0 rfl) ?_
  refine g_get (σ := σ) hx hb hts hts0 hown hK hP 10 (by decide) (by decide +kernel) rfl rfl dX0_hasGrade_1 ?_
  refine lv_iload_n hx hb dX0_hasGrade_4 rfl (lv_at hl 1 rfl) ?_
  refine g_at S gX0_hasGrade_X0_at hK hP 6 rfl (by decide) (v := ggr σ k) (vp_in_nI (by omega) (by decide)) (by rw [nI_clamp (by omega)]) hl.1 (Nat.le_of_ble_eq_true rfl) ⟨Nat.zero_le _, Nat.zero_le _⟩ ⟨Nat.le_of_ble_eq_true rfl, Nat.le_of_ble_eq_true rfl⟩ dX0_hasGrade_5 ?_
  refine lv_iconst (v := -1) hx hb dX0_hasGrade_8 (by decide) ?_
  refine lv_icmp_eq (tgt := 16) hx hb dX0_hasGrade_9 (by decide) (fun c9 => ?_) (fun c9 => ?_)
  · refine lv_iconst (v := 0) hx hb dX0_hasGrade_16 (by decide) ?_
    exact W.zret hx hb hr rfl (fun t ht hW => ⟨_, rfl, (by first | (rw [gHas, decide_eq_true c9]; rfl) | (rw [gHas, decide_eq_false c9]; rfl)), ht⟩) (fun _ h => nomatch h) dX0_hasGrade_17
  · refine lv_iconst (v := 1) hx hb dX0_hasGrade_12 (by decide) ?_
    refine lv_goto (tgt := 17) hx hb dX0_hasGrade_13 (by decide) ?_
    exact W.zret hx hb hr rfl (fun t ht hW => ⟨_, rfl, (by first | (rw [gHas, decide_eq_true c9]; rfl) | (rw [gHas, decide_eq_false c9]; rfl)), ht⟩) (fun _ h => nomatch h) dX0_hasGrade_17
theorem hinX0_pathFrom : ∀ w ∈ wsX00, w ∈ wsX0_pathFrom := fun w h => List.mem_cons_of_mem _ (List.mem_append_right _ h)
theorem hdX0_pathFrom : yX0_pathFrom.cls = RX0 ∧ yX0_pathFrom.cls ≠ "java/lang/invoke/MethodHandle" ∧ yX0_pathFrom.cls ≠ "java/lang/invoke/VarHandle" ∧ (parseMethodDescriptor yX0_pathFrom.desc).map (fun d => d.parameters.length) = some 2 := by decide +kernel
set_option maxHeartbeats 4000000 in
set_option maxRecDepth 100000 in
theorem c_pathFrom (l : Launch) (E : GE) (a : Nat → Nat) (σ : GS) (k : Nat) (hk : k < 40) (b : Bool) : Met l yX0_pathFrom wsX0_pathFrom { frames := 1, cells := 0, slots := 0, locals := 21 } (va_Pc [.ref (a 0), .int (nI k), .int (b2i b)] (gB E (gW E a σ))) (vp_Si (fun r => r = nI (gTo σ k b))) 0 0 (fun _ => False) := by
  refine w_met (cc := cX0_pathFrom) (maxL := 3) (ret := (some .int)) (by decide) rfl (Nat.le_of_ble_eq_true rfl) ?_
  intro p e s m below meth c ls S hr hlocks hname hB hl
  obtain ⟨hP, hK⟩ := hB
  obtain ⟨hx, hb, hml, hown, hts⟩ := id S
  have hts0 := hinX0_pathFrom
  have hl : lv_has ls 3 [(0, .ref (a 0)), (1, .int (nI k)), (2, .int (b2i b))] := hl
  refine lv_iload_n hx hb dX0_pathFrom_0 rfl (lv_at hl 2 rfl) ?_
  refine lv_if_eq (tgt := 15) hx hb dX0_pathFrom_1 (by decide) (fun c1 => ?_) (fun c1 => ?_)
  · obtain rfl : b = false := b2i_eq0.mp c1
    refine lv_aload_n hx hb dX0_pathFrom_15 rfl (lv_at hl 0 rfl) ?_
    refine g_get (σ := σ) hx hb hts hts0 hown hK hP 7 (by decide) (by decide +kernel) rfl rfl dX0_pathFrom_16 ?_
    refine lv_iload_n hx hb dX0_pathFrom_19 rfl (lv_at hl 1 rfl) ?_
    refine g_at S gX0_pathFrom_X0_at hK hP 3 rfl (by decide) (v := nI (glf σ k)) (vp_in_nI (by omega) (by decide)) (by rw [nI_clamp (by omega)]) hl.1 (Nat.le_of_ble_eq_true rfl) ⟨Nat.zero_le _, Nat.zero_le _⟩ ⟨Nat.le_of_ble_eq_true rfl, Nat.le_of_ble_eq_true rfl⟩ dX0_pathFrom_20 ?_
    exact W.iret hx hb hr (fun t ht hW => ⟨_, rfl, rfl, ht⟩) (fun _ h => nomatch h) dX0_pathFrom_23
  · obtain rfl : b = true := b2i_ne0.mp c1
    refine lv_aload_n hx hb dX0_pathFrom_4 rfl (lv_at hl 0 rfl) ?_
    refine g_get (σ := σ) hx hb hts hts0 hown hK hP 8 (by decide) (by decide +kernel) rfl rfl dX0_pathFrom_5 ?_
    refine lv_iload_n hx hb dX0_pathFrom_8 rfl (lv_at hl 1 rfl) ?_
    refine g_at S gX0_pathFrom_X0_at hK hP 4 rfl (by decide) (v := nI (grt σ k)) (vp_in_nI (by omega) (by decide)) (by rw [nI_clamp (by omega)]) hl.1 (Nat.le_of_ble_eq_true rfl) ⟨Nat.zero_le _, Nat.zero_le _⟩ ⟨Nat.le_of_ble_eq_true rfl, Nat.le_of_ble_eq_true rfl⟩ dX0_pathFrom_9 ?_
    refine lv_goto (tgt := 23) hx hb dX0_pathFrom_12 (by decide) ?_
    exact W.iret hx hb hr (fun t ht hW => ⟨_, rfl, rfl, ht⟩) (fun _ h => nomatch h) dX0_pathFrom_23
theorem hinX0_riskOfPath : ∀ w ∈ wsX00, w ∈ wsX0_riskOfPath := fun w h => List.mem_cons_of_mem _ (List.mem_append_right _ h)
theorem hdX0_riskOfPath : yX0_riskOfPath.cls = RX0 ∧ yX0_riskOfPath.cls ≠ "java/lang/invoke/MethodHandle" ∧ yX0_riskOfPath.cls ≠ "java/lang/invoke/VarHandle" ∧ (parseMethodDescriptor yX0_riskOfPath.desc).map (fun d => d.parameters.length) = some 2 := by decide +kernel
set_option maxHeartbeats 4000000 in
set_option maxRecDepth 100000 in
theorem c_riskOfPath (l : Launch) (E : GE) (a : Nat → Nat) (σ : GS) (hO : GOK σ) (k : Nat) (hk : k < 40) (b : Bool) : Met l yX0_riskOfPath wsX0_riskOfPath { frames := 2, cells := 0, slots := 0, locals := 43 } (va_Pc [.ref (a 0), .int (nI k), .int (b2i b)] (gB E (gW E a σ))) (vp_Si (fun r => r = gRisk σ k b)) 0 0 (fun _ => False) := by
  refine w_met (cc := cX0_riskOfPath) (maxL := 5) (ret := (some .int)) (by decide) rfl (Nat.le_of_ble_eq_true rfl) ?_
  intro p e s m below meth c ls S hr hlocks hname hB hl
  obtain ⟨hP, hK⟩ := hB
  obtain ⟨hx, hb, hml, hown, hts⟩ := id S
  have t1 := gTo_lt hO k true
  have t2 := gTo_lt hO k false
  have hts0 := hinX0_riskOfPath
  rcases b with _ | _
  · have hl : lv_has ls 5 [(0, .ref (a 0)), (1, .int (nI k)), (2, .int (b2i false))] := hl
    refine lv_aload_n hx hb dX0_riskOfPath_0 rfl (lv_at hl 0 rfl) ?_
    refine g_get (σ := σ) hx hb hts hts0 hown hK hP 11 (by decide) (by decide +kernel) rfl rfl dX0_riskOfPath_1 ?_
    refine lv_aload_n hx hb dX0_riskOfPath_4 rfl (lv_at hl 0 rfl) ?_
    refine lv_iload_n hx hb dX0_riskOfPath_5 rfl (lv_at hl 1 rfl) ?_
    refine lv_iload_n hx hb dX0_riskOfPath_6 rfl (lv_at hl 2 rfl) ?_
    refine g0i (As := [.int (nI k), .int (b2i false)]) (rest := [.ref (a 7)]) S (c_pathFrom l E a σ k (by omega) false) (cwV 2 hts gX0_riskOfPath_X0_pathFrom rfl rfl rfl hdX0_pathFrom ⟨Nat.le_of_ble_eq_true rfl, Nat.le_of_ble_eq_true rfl⟩) hK hP rfl hl.1 rfl (Nat.le_of_ble_eq_true rfl) ⟨Nat.zero_le _, Nat.zero_le _⟩ dX0_riskOfPath_7 ?_
    refine g_at S gX0_riskOfPath_X0_at hK hP 7 rfl (by decide) (v := gsu σ (gTo σ k false)) (vp_in_nI (by omega) (by decide)) (by rw [nI_clamp (by omega)]) hl.1 (Nat.le_of_ble_eq_true rfl) ⟨Nat.zero_le _, Nat.zero_le _⟩ ⟨Nat.le_of_ble_eq_true rfl, Nat.le_of_ble_eq_true rfl⟩ dX0_riskOfPath_10 ?_
    refine lv_istore_n (lv' := [(3, .int (gsu σ (gTo σ k false))), (0, .ref (a 0)), (1, .int (nI k)), (2, .int (b2i false))]) hx hb dX0_riskOfPath_13 rfl hl (by decide) rfl (fun ls hl => ?_)
    refine lv_aload_n hx hb dX0_riskOfPath_14 rfl (lv_at hl 1 rfl) ?_
    refine g_get (σ := σ) hx hb hts hts0 hown hK hP 12 (by decide) (by decide +kernel) rfl rfl dX0_riskOfPath_15 ?_
    refine lv_aload_n hx hb dX0_riskOfPath_18 rfl (lv_at hl 1 rfl) ?_
    refine lv_iload_n hx hb dX0_riskOfPath_19 rfl (lv_at hl 2 rfl) ?_
    refine lv_iload_n hx hb dX0_riskOfPath_20 rfl (lv_at hl 3 rfl) ?_
    refine lv_if_ne (tgt := 28) hx hb dX0_riskOfPath_21 (by decide) (fun q => absurd ((rfl : b2i false = 0)) q) (fun _ => ?_)
    refine lv_iconst (v := 1) hx hb dX0_riskOfPath_24 (by decide) ?_
    refine lv_goto (tgt := 29) hx hb dX0_riskOfPath_25 (by decide) ?_
    refine g0i (As := [.int (nI k), .int (b2i true)]) (rest := [.ref (a 8)]) S (c_pathFrom l E a σ k (by omega) true) (cwV 2 hts gX0_riskOfPath_X0_pathFrom rfl rfl rfl hdX0_pathFrom ⟨Nat.le_of_ble_eq_true rfl, Nat.le_of_ble_eq_true rfl⟩) hK hP rfl hl.1 rfl (Nat.le_of_ble_eq_true rfl) ⟨Nat.zero_le _, Nat.zero_le _⟩ dX0_riskOfPath_29 ?_
    refine g_at S gX0_riskOfPath_X0_at hK hP 8 rfl (by decide) (v := gho σ (gTo σ k true)) (vp_in_nI (by omega) (by decide)) (by rw [nI_clamp (by omega)]) hl.1 (Nat.le_of_ble_eq_true rfl) ⟨Nat.zero_le _, Nat.zero_le _⟩ ⟨Nat.le_of_ble_eq_true rfl, Nat.le_of_ble_eq_true rfl⟩ dX0_riskOfPath_32 ?_
    refine lv_istore (lv' := [(4, .int (gho σ (gTo σ k true))), (3, .int (gsu σ (gTo σ k false))), (0, .ref (a 0)), (1, .int (nI k)), (2, .int (b2i false))]) hx hb dX0_riskOfPath_35 hl (by decide) rfl (fun ls hl => ?_)
    refine lv_iconst (v := 0) hx hb dX0_riskOfPath_37 (by decide) ?_
    refine lv_iload hx hb dX0_riskOfPath_38 (lv_at hl 0 rfl) ?_
    refine lv_iload_n hx hb dX0_riskOfPath_40 rfl (lv_at hl 1 rfl) ?_
    refine lv_isub hx hb dX0_riskOfPath_41 ?_
    refine g_max hx hb (hml.trans hl.1.symm) hown (hts (.methodLink RX0 269 Lib.Math.max.name) (by decide +kernel)) (hts (.static Lib.Math.max.name) (by decide +kernel)) (hts (.initialized "java/lang/Math") (by decide +kernel)) (hts (.code Lib.Math.max.name Lib.Math.max.code 2 (some .int)) (by decide +kernel)) (Nat.le_of_ble_eq_true rfl) (Nat.le_of_ble_eq_true rfl) ⟨Nat.zero_le _, Nat.zero_le _⟩ dX0_riskOfPath_42 ?_
    refine lv_aload_n hx hb dX0_riskOfPath_45 rfl (lv_at hl 2 rfl) ?_
    refine g_get (σ := σ) hx hb hts hts0 hown hK hP 9 (by decide) (by decide +kernel) rfl rfl dX0_riskOfPath_46 ?_
    refine lv_iload_n hx hb dX0_riskOfPath_49 rfl (lv_at hl 3 rfl) ?_
    refine g_at S gX0_riskOfPath_X0_at hK hP 5 rfl (by decide) (v := gwt σ k) (vp_in_nI (by omega) (by decide)) (by rw [nI_clamp (by omega)]) hl.1 (Nat.le_of_ble_eq_true rfl) ⟨Nat.zero_le _, Nat.zero_le _⟩ ⟨Nat.le_of_ble_eq_true rfl, Nat.le_of_ble_eq_true rfl⟩ dX0_riskOfPath_50 ?_
    refine lv_imul hx hb dX0_riskOfPath_53 ?_
    exact W.iret hx hb hr (fun t ht hW => ⟨_, rfl, rfl, ht⟩) (fun _ h => nomatch h) dX0_riskOfPath_54
  · have hl : lv_has ls 5 [(0, .ref (a 0)), (1, .int (nI k)), (2, .int (b2i true))] := hl
    refine lv_aload_n hx hb dX0_riskOfPath_0 rfl (lv_at hl 0 rfl) ?_
    refine g_get (σ := σ) hx hb hts hts0 hown hK hP 11 (by decide) (by decide +kernel) rfl rfl dX0_riskOfPath_1 ?_
    refine lv_aload_n hx hb dX0_riskOfPath_4 rfl (lv_at hl 0 rfl) ?_
    refine lv_iload_n hx hb dX0_riskOfPath_5 rfl (lv_at hl 1 rfl) ?_
    refine lv_iload_n hx hb dX0_riskOfPath_6 rfl (lv_at hl 2 rfl) ?_
    refine g0i (As := [.int (nI k), .int (b2i true)]) (rest := [.ref (a 7)]) S (c_pathFrom l E a σ k (by omega) true) (cwV 2 hts gX0_riskOfPath_X0_pathFrom rfl rfl rfl hdX0_pathFrom ⟨Nat.le_of_ble_eq_true rfl, Nat.le_of_ble_eq_true rfl⟩) hK hP rfl hl.1 rfl (Nat.le_of_ble_eq_true rfl) ⟨Nat.zero_le _, Nat.zero_le _⟩ dX0_riskOfPath_7 ?_
    refine g_at S gX0_riskOfPath_X0_at hK hP 7 rfl (by decide) (v := gsu σ (gTo σ k true)) (vp_in_nI (by omega) (by decide)) (by rw [nI_clamp (by omega)]) hl.1 (Nat.le_of_ble_eq_true rfl) ⟨Nat.zero_le _, Nat.zero_le _⟩ ⟨Nat.le_of_ble_eq_true rfl, Nat.le_of_ble_eq_true rfl⟩ dX0_riskOfPath_10 ?_
    refine lv_istore_n (lv' := [(3, .int (gsu σ (gTo σ k true))), (0, .ref (a 0)), (1, .int (nI k)), (2, .int (b2i true))]) hx hb dX0_riskOfPath_13 rfl hl (by decide) rfl (fun ls hl => ?_)
    refine lv_aload_n hx hb dX0_riskOfPath_14 rfl (lv_at hl 1 rfl) ?_
    refine g_get (σ := σ) hx hb hts hts0 hown hK hP 12 (by decide) (by decide +kernel) rfl rfl dX0_riskOfPath_15 ?_
    refine lv_aload_n hx hb dX0_riskOfPath_18 rfl (lv_at hl 1 rfl) ?_
    refine lv_iload_n hx hb dX0_riskOfPath_19 rfl (lv_at hl 2 rfl) ?_
    refine lv_iload_n hx hb dX0_riskOfPath_20 rfl (lv_at hl 3 rfl) ?_
    refine lv_if_ne (tgt := 28) hx hb dX0_riskOfPath_21 (by decide) (fun _ => ?_) (fun q => absurd q ((b2i_ne0.mpr rfl)))
    refine lv_iconst (v := 0) hx hb dX0_riskOfPath_28 (by decide) ?_
    refine g0i (As := [.int (nI k), .int (b2i false)]) (rest := [.ref (a 8)]) S (c_pathFrom l E a σ k (by omega) false) (cwV 2 hts gX0_riskOfPath_X0_pathFrom rfl rfl rfl hdX0_pathFrom ⟨Nat.le_of_ble_eq_true rfl, Nat.le_of_ble_eq_true rfl⟩) hK hP rfl hl.1 rfl (Nat.le_of_ble_eq_true rfl) ⟨Nat.zero_le _, Nat.zero_le _⟩ dX0_riskOfPath_29 ?_
    refine g_at S gX0_riskOfPath_X0_at hK hP 8 rfl (by decide) (v := gho σ (gTo σ k false)) (vp_in_nI (by omega) (by decide)) (by rw [nI_clamp (by omega)]) hl.1 (Nat.le_of_ble_eq_true rfl) ⟨Nat.zero_le _, Nat.zero_le _⟩ ⟨Nat.le_of_ble_eq_true rfl, Nat.le_of_ble_eq_true rfl⟩ dX0_riskOfPath_32 ?_
    refine lv_istore (lv' := [(4, .int (gho σ (gTo σ k false))), (3, .int (gsu σ (gTo σ k true))), (0, .ref (a 0)), (1, .int (nI k)), (2, .int (b2i true))]) hx hb dX0_riskOfPath_35 hl (by decide) rfl (fun ls hl => ?_)
    refine lv_iconst (v := 0) hx hb dX0_riskOfPath_37 (by decide) ?_
    refine lv_iload hx hb dX0_riskOfPath_38 (lv_at hl 0 rfl) ?_
    refine lv_iload_n hx hb dX0_riskOfPath_40 rfl (lv_at hl 1 rfl) ?_
    refine lv_isub hx hb dX0_riskOfPath_41 ?_
    refine g_max hx hb (hml.trans hl.1.symm) hown (hts (.methodLink RX0 269 Lib.Math.max.name) (by decide +kernel)) (hts (.static Lib.Math.max.name) (by decide +kernel)) (hts (.initialized "java/lang/Math") (by decide +kernel)) (hts (.code Lib.Math.max.name Lib.Math.max.code 2 (some .int)) (by decide +kernel)) (Nat.le_of_ble_eq_true rfl) (Nat.le_of_ble_eq_true rfl) ⟨Nat.zero_le _, Nat.zero_le _⟩ dX0_riskOfPath_42 ?_
    refine lv_aload_n hx hb dX0_riskOfPath_45 rfl (lv_at hl 2 rfl) ?_
    refine g_get (σ := σ) hx hb hts hts0 hown hK hP 9 (by decide) (by decide +kernel) rfl rfl dX0_riskOfPath_46 ?_
    refine lv_iload_n hx hb dX0_riskOfPath_49 rfl (lv_at hl 3 rfl) ?_
    refine g_at S gX0_riskOfPath_X0_at hK hP 5 rfl (by decide) (v := gwt σ k) (vp_in_nI (by omega) (by decide)) (by rw [nI_clamp (by omega)]) hl.1 (Nat.le_of_ble_eq_true rfl) ⟨Nat.zero_le _, Nat.zero_le _⟩ ⟨Nat.le_of_ble_eq_true rfl, Nat.le_of_ble_eq_true rfl⟩ dX0_riskOfPath_50 ?_
    refine lv_imul hx hb dX0_riskOfPath_53 ?_
    exact W.iret hx hb hr (fun t ht hW => ⟨_, rfl, rfl, ht⟩) (fun _ h => nomatch h) dX0_riskOfPath_54
theorem hinX0_plansRight : ∀ w ∈ wsX00, w ∈ wsX0_plansRight := fun w h => List.mem_cons_of_mem _ (List.mem_append_right _ h)
theorem hdX0_plansRight : yX0_plansRight.cls = RX0 ∧ yX0_plansRight.cls ≠ "java/lang/invoke/MethodHandle" ∧ yX0_plansRight.cls ≠ "java/lang/invoke/VarHandle" ∧ (parseMethodDescriptor yX0_plansRight.desc).map (fun d => d.parameters.length) = some 1 := by decide +kernel
set_option maxHeartbeats 4000000 in
set_option maxRecDepth 100000 in
theorem c_plansRight (l : Launch) (E : GE) (a : Nat → Nat) (σ : GS) (hO : GOK σ) (k : Nat) (hk : k < 40) : Met l yX0_plansRight wsX0_plansRight { frames := 3, cells := 0, slots := 0, locals := 67 } (va_Pc [.ref (a 0), .int (nI k)] (gB E (gW E a σ))) (vp_Si (fun r => r = b2i (gPl σ k))) 0 0 (fun _ => False) := by
  refine w_met (cc := cX0_plansRight) (maxL := 2) (ret := (some .boolean)) (by decide) rfl (Nat.le_of_ble_eq_true rfl) ?_
  intro p e s m below meth c ls S hr hlocks hname hB hl
  obtain ⟨hP, hK⟩ := hB
  obtain ⟨hx, hb, hml, hown, hts⟩ := id S
  have hts0 := hinX0_plansRight
  have hl : lv_has ls 2 [(0, .ref (a 0)), (1, .int (nI k))] := hl
  refine lv_aload_n hx hb dX0_plansRight_0 rfl (lv_at hl 0 rfl) ?_
  refine lv_iload_n hx hb dX0_plansRight_1 rfl (lv_at hl 1 rfl) ?_
  refine lv_iconst (v := 1) hx hb dX0_plansRight_2 (by decide) ?_
  refine g0i (As := [.int (nI k), .int (b2i true)]) (rest := []) S (c_riskOfPath l E a σ hO k (by omega) true) (cwV 2 hts gX0_plansRight_X0_riskOfPath rfl rfl rfl hdX0_riskOfPath ⟨Nat.le_of_ble_eq_true rfl, Nat.le_of_ble_eq_true rfl⟩) hK hP rfl hl.1 rfl (Nat.le_of_ble_eq_true rfl) ⟨Nat.zero_le _, Nat.zero_le _⟩ dX0_plansRight_3 ?_
  refine lv_aload_n hx hb dX0_plansRight_6 rfl (lv_at hl 0 rfl) ?_
  refine lv_iload_n hx hb dX0_plansRight_7 rfl (lv_at hl 1 rfl) ?_
  refine lv_iconst (v := 0) hx hb dX0_plansRight_8 (by decide) ?_
  refine g0i (As := [.int (nI k), .int (b2i false)]) (rest := [.int (gRisk σ k true)]) S (c_riskOfPath l E a σ hO k (by omega) false) (cwV 2 hts gX0_plansRight_X0_riskOfPath rfl rfl rfl hdX0_riskOfPath ⟨Nat.le_of_ble_eq_true rfl, Nat.le_of_ble_eq_true rfl⟩) hK hP rfl hl.1 rfl (Nat.le_of_ble_eq_true rfl) ⟨Nat.zero_le _, Nat.zero_le _⟩ dX0_plansRight_9 ?_
  refine lv_icmp_ge (tgt := 19) hx hb dX0_plansRight_12 (by decide) (fun c12 => ?_) (fun c12 => ?_)
  · refine lv_iconst (v := 0) hx hb dX0_plansRight_19 (by decide) ?_
    exact W.zret hx hb hr rfl (fun t ht hW => ⟨_, rfl, (by first | (rw [gPl, decide_eq_false (fun h => Int32.not_lt.mpr c12 h)]; rfl) | (rw [gPl, decide_eq_true (Int32.not_le.mp c12)]; rfl)), ht⟩) (fun _ h => nomatch h) dX0_plansRight_20
  · refine lv_iconst (v := 1) hx hb dX0_plansRight_15 (by decide) ?_
    refine lv_goto (tgt := 20) hx hb dX0_plansRight_16 (by decide) ?_
    exact W.zret hx hb hr rfl (fun t ht hW => ⟨_, rfl, (by first | (rw [gPl, decide_eq_false (fun h => Int32.not_lt.mpr c12 h)]; rfl) | (rw [gPl, decide_eq_true (Int32.not_le.mp c12)]; rfl)), ht⟩) (fun _ h => nomatch h) dX0_plansRight_20
theorem hinX0_smallerRisk : ∀ w ∈ wsX00, w ∈ wsX0_smallerRisk := fun w h => List.mem_cons_of_mem _ (List.mem_append_right _ h)
theorem hdX0_smallerRisk : yX0_smallerRisk.cls = RX0 ∧ yX0_smallerRisk.cls ≠ "java/lang/invoke/MethodHandle" ∧ yX0_smallerRisk.cls ≠ "java/lang/invoke/VarHandle" ∧ (parseMethodDescriptor yX0_smallerRisk.desc).map (fun d => d.parameters.length) = some 1 := by decide +kernel
set_option maxHeartbeats 4000000 in
set_option maxRecDepth 100000 in
theorem c_smallerRisk (l : Launch) (E : GE) (a : Nat → Nat) (σ : GS) (hO : GOK σ) (k : Nat) (hk : k < 40) : Met l yX0_smallerRisk wsX0_smallerRisk { frames := 3, cells := 0, slots := 0, locals := 67 } (va_Pc [.ref (a 0), .int (nI k)] (gB E (gW E a σ))) (vp_Si (fun r => r = gSm σ k)) 0 0 (fun _ => False) := by
  refine w_met (cc := cX0_smallerRisk) (maxL := 2) (ret := (some .int)) (by decide) rfl (Nat.le_of_ble_eq_true rfl) ?_
  intro p e s m below meth c ls S hr hlocks hname hB hl
  obtain ⟨hP, hK⟩ := hB
  obtain ⟨hx, hb, hml, hown, hts⟩ := id S
  have hts0 := hinX0_smallerRisk
  have hl : lv_has ls 2 [(0, .ref (a 0)), (1, .int (nI k))] := hl
  refine lv_aload_n hx hb dX0_smallerRisk_0 rfl (lv_at hl 0 rfl) ?_
  refine lv_iload_n hx hb dX0_smallerRisk_1 rfl (lv_at hl 1 rfl) ?_
  refine lv_iconst (v := 0) hx hb dX0_smallerRisk_2 (by decide) ?_
  refine g0i (As := [.int (nI k), .int (b2i false)]) (rest := []) S (c_riskOfPath l E a σ hO k (by omega) false) (cwV 2 hts gX0_smallerRisk_X0_riskOfPath rfl rfl rfl hdX0_riskOfPath ⟨Nat.le_of_ble_eq_true rfl, Nat.le_of_ble_eq_true rfl⟩) hK hP rfl hl.1 rfl (Nat.le_of_ble_eq_true rfl) ⟨Nat.zero_le _, Nat.zero_le _⟩ dX0_smallerRisk_3 ?_
  refine lv_aload_n hx hb dX0_smallerRisk_6 rfl (lv_at hl 0 rfl) ?_
  refine lv_iload_n hx hb dX0_smallerRisk_7 rfl (lv_at hl 1 rfl) ?_
  refine lv_iconst (v := 1) hx hb dX0_smallerRisk_8 (by decide) ?_
  refine g0i (As := [.int (nI k), .int (b2i true)]) (rest := [.int (gRisk σ k false)]) S (c_riskOfPath l E a σ hO k (by omega) true) (cwV 2 hts gX0_smallerRisk_X0_riskOfPath rfl rfl rfl hdX0_riskOfPath ⟨Nat.le_of_ble_eq_true rfl, Nat.le_of_ble_eq_true rfl⟩) hK hP rfl hl.1 rfl (Nat.le_of_ble_eq_true rfl) ⟨Nat.zero_le _, Nat.zero_le _⟩ dX0_smallerRisk_9 ?_
  refine g_min hx hb (hml.trans hl.1.symm) hown (hts (.methodLink RX0 274 Lib.Math.min.name) (by decide +kernel)) (hts (.static Lib.Math.min.name) (by decide +kernel)) (hts (.initialized "java/lang/Math") (by decide +kernel)) (hts (.code Lib.Math.min.name Lib.Math.min.code 2 (some .int)) (by decide +kernel)) (Nat.le_of_ble_eq_true rfl) (Nat.le_of_ble_eq_true rfl) ⟨Nat.zero_le _, Nat.zero_le _⟩ dX0_smallerRisk_12 ?_
  exact W.iret hx hb hr (fun t ht hW => ⟨_, rfl, rfl, ht⟩) (fun _ h => nomatch h) dX0_smallerRisk_15
theorem hinX0_passedFork : ∀ w ∈ wsX00, w ∈ wsX0_passedFork := fun w h => List.mem_cons_of_mem _ (List.mem_append_right _ h)
theorem hdX0_passedFork : yX0_passedFork.cls = RX0 ∧ yX0_passedFork.cls ≠ "java/lang/invoke/MethodHandle" ∧ yX0_passedFork.cls ≠ "java/lang/invoke/VarHandle" ∧ (parseMethodDescriptor yX0_passedFork.desc).map (fun d => d.parameters.length) = some 2 := by decide +kernel
set_option maxHeartbeats 4000000 in
set_option maxRecDepth 100000 in
theorem c_passedFork (l : Launch) (E : GE) (a : Nat → Nat) (σ : GS) (s0 j : Nat) (hs : s0 < 8) (hj : j < 40) : Met l yX0_passedFork wsX0_passedFork { frames := 1, cells := 0, slots := 0, locals := 21 } (va_Pc [.ref (a 0), .int (nI s0), .int (nI j)] (gB E (gW E a σ))) (vp_Si (fun r => r = nI (gpf σ (s0 * 40 + j)))) 0 0 (fun _ => False) := by
  refine w_met (cc := cX0_passedFork) (maxL := 3) (ret := (some .int)) (by decide) rfl (Nat.le_of_ble_eq_true rfl) ?_
  intro p e s m below meth c ls S hr hlocks hname hB hl
  obtain ⟨hP, hK⟩ := hB
  obtain ⟨hx, hb, hml, hown, hts⟩ := id S
  have hts0 := hinX0_passedFork
  have hl : lv_has ls 3 [(0, .ref (a 0)), (1, .int (nI s0)), (2, .int (nI j))] := hl
  refine lv_aload_n hx hb dX0_passedFork_0 rfl (lv_at hl 0 rfl) ?_
  refine g_get (σ := σ) hx hb hts hts0 hown hK hP 17 (by decide) (by decide +kernel) rfl rfl dX0_passedFork_1 ?_
  refine lv_iload_n hx hb dX0_passedFork_4 rfl (lv_at hl 1 rfl) ?_
  refine lv_bipush (v := nI 40) hx hb dX0_passedFork_5 (by decide) ?_
  refine lv_imul hx hb dX0_passedFork_7 ?_
  rw [pk_mul s0 40]
  refine lv_iload_n hx hb dX0_passedFork_8 rfl (lv_at hl 2 rfl) ?_
  refine lv_iadd hx hb dX0_passedFork_9 ?_
  rw [nI_add (s0 * 40) j]
  refine g_at S gX0_passedFork_X0_at hK hP 13 rfl (by decide) (v := nI (gpf σ ((s0 * 40) + j))) (vp_in_nI (by omega) (by decide)) (by rw [nI_clamp (by omega)]) hl.1 (Nat.le_of_ble_eq_true rfl) ⟨Nat.zero_le _, Nat.zero_le _⟩ ⟨Nat.le_of_ble_eq_true rfl, Nat.le_of_ble_eq_true rfl⟩ dX0_passedFork_10 ?_
  exact W.iret hx hb hr (fun t ht hW => ⟨_, rfl, rfl, ht⟩) (fun _ h => nomatch h) dX0_passedFork_13
theorem hinX0_regretOfStep : ∀ w ∈ wsX00, w ∈ wsX0_regretOfStep := fun w h => List.mem_cons_of_mem _ (List.mem_append_right _ h)
theorem hdX0_regretOfStep : yX0_regretOfStep.cls = RX0 ∧ yX0_regretOfStep.cls ≠ "java/lang/invoke/MethodHandle" ∧ yX0_regretOfStep.cls ≠ "java/lang/invoke/VarHandle" ∧ (parseMethodDescriptor yX0_regretOfStep.desc).map (fun d => d.parameters.length) = some 2 := by decide +kernel
set_option maxHeartbeats 4000000 in
set_option maxRecDepth 100000 in
theorem c_regretOfStep (l : Launch) (E : GE) (a : Nat → Nat) (σ : GS) (hO : GOK σ) (s0 j : Nat) (hs : s0 < 8) (hj : j < 40) : Met l yX0_regretOfStep wsX0_regretOfStep { frames := 2, cells := 0, slots := 0, locals := 43 } (va_Pc [.ref (a 0), .int (nI s0), .int (nI j)] (gB E (gW E a σ))) (vp_Si (fun r => r = gReg σ s0 j)) 0 0 (fun _ => False) := by
  refine w_met (cc := cX0_regretOfStep) (maxL := 5) (ret := (some .int)) (by decide) rfl (Nat.le_of_ble_eq_true rfl) ?_
  intro p e s m below meth c ls S hr hlocks hname hB hl
  obtain ⟨hP, hK⟩ := hB
  obtain ⟨hx, hb, hml, hown, hts⟩ := id S
  have t1 := hO.2.2.2.2.2.1 (s0 * 40 + j)
  have t2 := hO.2.2.2.2.1 s0
  have hts0 := hinX0_regretOfStep
  have hl : lv_has ls 5 [(0, .ref (a 0)), (1, .int (nI s0)), (2, .int (nI j))] := hl
  refine lv_aload_n hx hb dX0_regretOfStep_0 rfl (lv_at hl 0 rfl) ?_
  refine lv_iload_n hx hb dX0_regretOfStep_1 rfl (lv_at hl 1 rfl) ?_
  refine lv_iload_n hx hb dX0_regretOfStep_2 rfl (lv_at hl 2 rfl) ?_
  refine g0i (As := [.int (nI s0), .int (nI j)]) (rest := []) S (c_passedFork l E a σ s0 j (by omega) (by omega)) (cwV 2 hts gX0_regretOfStep_X0_passedFork rfl rfl rfl hdX0_passedFork ⟨Nat.le_of_ble_eq_true rfl, Nat.le_of_ble_eq_true rfl⟩) hK hP rfl hl.1 rfl (Nat.le_of_ble_eq_true rfl) ⟨Nat.zero_le _, Nat.zero_le _⟩ dX0_regretOfStep_3 ?_
  refine lv_istore_n (lv' := [(3, .int (nI (gpf σ (s0 * 40 + j)))), (0, .ref (a 0)), (1, .int (nI s0)), (2, .int (nI j))]) hx hb dX0_regretOfStep_6 rfl hl (by decide) rfl (fun ls hl => ?_)
  refine lv_aload_n hx hb dX0_regretOfStep_7 rfl (lv_at hl 1 rfl) ?_
  refine g_get (σ := σ) hx hb hts hts0 hown hK hP 10 (by decide) (by decide +kernel) rfl rfl dX0_regretOfStep_8 ?_
  refine lv_aload_n hx hb dX0_regretOfStep_11 rfl (lv_at hl 1 rfl) ?_
  refine g_get (σ := σ) hx hb hts hts0 hown hK hP 15 (by decide) (by decide +kernel) rfl rfl dX0_regretOfStep_12 ?_
  refine lv_iload_n hx hb dX0_regretOfStep_15 rfl (lv_at hl 2 rfl) ?_
  refine g_at S gX0_regretOfStep_X0_at hK hP 11 rfl (by decide) (v := nI (gst σ s0)) (vp_in_nI (by omega) (by decide)) (by rw [nI_clamp (by omega)]) hl.1 (Nat.le_of_ble_eq_true rfl) ⟨Nat.zero_le _, Nat.zero_le _⟩ ⟨Nat.le_of_ble_eq_true rfl, Nat.le_of_ble_eq_true rfl⟩ dX0_regretOfStep_16 ?_
  refine g_at S gX0_regretOfStep_X0_at hK hP 6 rfl (by decide) (v := ggr σ (gst σ s0)) (vp_in_nI (by omega) (by decide)) (by rw [nI_clamp (by omega)]) hl.1 (Nat.le_of_ble_eq_true rfl) ⟨Nat.zero_le _, Nat.zero_le _⟩ ⟨Nat.le_of_ble_eq_true rfl, Nat.le_of_ble_eq_true rfl⟩ dX0_regretOfStep_19 ?_
  refine lv_istore (lv' := [(4, .int (ggr σ (gst σ s0))), (3, .int (nI (gpf σ (s0 * 40 + j)))), (0, .ref (a 0)), (1, .int (nI s0)), (2, .int (nI j))]) hx hb dX0_regretOfStep_22 hl (by decide) rfl (fun ls hl => ?_)
  refine lv_iconst (v := 0) hx hb dX0_regretOfStep_24 (by decide) ?_
  refine lv_aload_n hx hb dX0_regretOfStep_25 rfl (lv_at hl 2 rfl) ?_
  refine g_get (σ := σ) hx hb hts hts0 hown hK hP 13 (by decide) (by decide +kernel) rfl rfl dX0_regretOfStep_26 ?_
  refine lv_iload_n hx hb dX0_regretOfStep_29 rfl (lv_at hl 1 rfl) ?_
  refine g_at S gX0_regretOfStep_X0_at hK hP 9 rfl (by decide) (v := ghs σ (gpf σ (s0 * 40 + j))) (vp_in_nI (by omega) (by decide)) (by rw [nI_clamp (by omega)]) hl.1 (Nat.le_of_ble_eq_true rfl) ⟨Nat.zero_le _, Nat.zero_le _⟩ ⟨Nat.le_of_ble_eq_true rfl, Nat.le_of_ble_eq_true rfl⟩ dX0_regretOfStep_30 ?_
  refine lv_iload hx hb dX0_regretOfStep_33 (lv_at hl 0 rfl) ?_
  refine lv_isub hx hb dX0_regretOfStep_35 ?_
  refine g_max hx hb (hml.trans hl.1.symm) hown (hts (.methodLink RX0 269 Lib.Math.max.name) (by decide +kernel)) (hts (.static Lib.Math.max.name) (by decide +kernel)) (hts (.initialized "java/lang/Math") (by decide +kernel)) (hts (.code Lib.Math.max.name Lib.Math.max.code 2 (some .int)) (by decide +kernel)) (Nat.le_of_ble_eq_true rfl) (Nat.le_of_ble_eq_true rfl) ⟨Nat.zero_le _, Nat.zero_le _⟩ dX0_regretOfStep_36 ?_
  refine lv_aload_n hx hb dX0_regretOfStep_39 rfl (lv_at hl 2 rfl) ?_
  refine g_get (σ := σ) hx hb hts hts0 hown hK hP 9 (by decide) (by decide +kernel) rfl rfl dX0_regretOfStep_40 ?_
  refine lv_iload_n hx hb dX0_regretOfStep_43 rfl (lv_at hl 1 rfl) ?_
  refine g_at S gX0_regretOfStep_X0_at hK hP 5 rfl (by decide) (v := gwt σ (gpf σ (s0 * 40 + j))) (vp_in_nI (by omega) (by decide)) (by rw [nI_clamp (by omega)]) hl.1 (Nat.le_of_ble_eq_true rfl) ⟨Nat.zero_le _, Nat.zero_le _⟩ ⟨Nat.le_of_ble_eq_true rfl, Nat.le_of_ble_eq_true rfl⟩ dX0_regretOfStep_44 ?_
  refine lv_imul hx hb dX0_regretOfStep_47 ?_
  exact W.iret hx hb hr (fun t ht hW => ⟨_, rfl, rfl, ht⟩) (fun _ h => nomatch h) dX0_regretOfStep_48
theorem hinX0_regretOfAll : ∀ w ∈ wsX00, w ∈ wsX0_regretOfAll := fun w h => List.mem_cons_of_mem _ (List.mem_append_right _ h)
theorem hdX0_regretOfAll : yX0_regretOfAll.cls = RX0 ∧ yX0_regretOfAll.cls ≠ "java/lang/invoke/MethodHandle" ∧ yX0_regretOfAll.cls ≠ "java/lang/invoke/VarHandle" ∧ (parseMethodDescriptor yX0_regretOfAll.desc).map (fun d => d.parameters.length) = some 1 := by decide +kernel
set_option maxHeartbeats 4000000 in
set_option maxRecDepth 100000 in
theorem c_regretOfAll (l : Launch) (E : GE) (a : Nat → Nat) (σ : GS) (hO : GOK σ) (s0 : Nat) (hs : s0 < 8) : Met l yX0_regretOfAll wsX0_regretOfAll { frames := 3, cells := 0, slots := 0, locals := 67 } (va_Pc [.ref (a 0), .int (nI s0)] (gB E (gW E a σ))) (vp_Si (fun r => r = gRegs σ s0)) 0 0 (fun _ => False) := by
  refine w_met (cc := cX0_regretOfAll) (maxL := 5) (ret := (some .int)) (by decide) rfl (Nat.le_of_ble_eq_true rfl) ?_
  intro p e s m below meth c ls S hr hlocks hname hB hl
  obtain ⟨hP, hK⟩ := hB
  obtain ⟨hx, hb, hml, hown, hts⟩ := id S
  have t1 := hO.2.2.2.2.2.2.1 s0
  have hts0 := hinX0_regretOfAll
  have hl : lv_has ls 5 [(0, .ref (a 0)), (1, .int (nI s0))] := hl
  refine lv_iconst (v := 0) hx hb dX0_regretOfAll_0 (by decide) ?_
  refine lv_istore_n (lv' := [(2, .int 0), (0, .ref (a 0)), (1, .int (nI s0))]) hx hb dX0_regretOfAll_1 rfl hl (by decide) rfl (fun ls hl => ?_)
  refine lv_aload_n hx hb dX0_regretOfAll_2 rfl (lv_at hl 1 rfl) ?_
  refine g_get (σ := σ) hx hb hts hts0 hown hK hP 16 (by decide) (by decide +kernel) rfl rfl dX0_regretOfAll_3 ?_
  refine lv_iload_n hx hb dX0_regretOfAll_6 rfl (lv_at hl 2 rfl) ?_
  refine g_at S gX0_regretOfAll_X0_at hK hP 12 rfl (by decide) (v := nI (gpc σ s0)) (vp_in_nI (by omega) (by decide)) (by rw [nI_clamp (by omega)]) hl.1 (Nat.le_of_ble_eq_true rfl) ⟨Nat.zero_le _, Nat.zero_le _⟩ ⟨Nat.le_of_ble_eq_true rfl, Nat.le_of_ble_eq_true rfl⟩ dX0_regretOfAll_7 ?_
  refine lv_istore_n (lv' := [(3, .int (nI (gpc σ s0))), (2, .int 0), (0, .ref (a 0)), (1, .int (nI s0))]) hx hb dX0_regretOfAll_10 rfl hl (by decide) rfl (fun ls hl => ?_)
  refine lv_iconst (v := 0) hx hb dX0_regretOfAll_11 (by decide) ?_
  refine lv_istore (lv' := [(4, .int 0), (3, .int (nI (gpc σ s0))), (2, .int 0), (0, .ref (a 0)), (1, .int (nI s0))]) hx hb dX0_regretOfAll_12 hl (by decide) rfl (fun ls hl => ?_)
  have key : ∀ (d i : Nat) (x : Int32) (ls : Array Slot), i + d = gpc σ s0 → x = sumI (gReg σ s0) i → lv_has ls 5 [(4, .int (nI i)), (3, .int (nI (gpc σ s0))), (2, .int x), (0, .ref (a 0)), (1, .int (nI s0))] → W p l e (headSpec wsX0_regretOfAll { frames := 3, cells := 0, slots := 0, locals := 67 }).room s m [.ref (a 0), .int (nI s0)].toArray below meth c s.heap [] 0 0 (MQ below (vp_Si (fun r => r = gRegs σ s0)) [.ref (a 0), .int (nI s0)].toArray s 0 0 (fun _ => False)) (F0 m 14 ls []) := by
    intro d
    induction d with
    | zero =>
      intro i x ls hi hinv hl
      obtain rfl : i = gpc σ s0 := by omega
      refine lv_iload hx hb dX0_regretOfAll_14 (lv_at hl 0 rfl) ?_
      refine lv_iload_n hx hb dX0_regretOfAll_16 rfl (lv_at hl 1 rfl) ?_
      refine lv_icmp_ge (tgt := 36) hx hb dX0_regretOfAll_17 (by decide) (fun _ => ?_) (fun q => absurd ((nI_le (Nat.le_refl _) (by omega))) q)
      refine lv_iload_n hx hb dX0_regretOfAll_36 rfl (lv_at hl 2 rfl) ?_
      exact W.iret hx hb hr (fun t ht hW => ⟨_, rfl, hinv, ht⟩) (fun _ h => nomatch h) dX0_regretOfAll_37
    | succ d ih =>
      intro i x ls hi hinv hl
      refine lv_iload hx hb dX0_regretOfAll_14 (lv_at hl 0 rfl) ?_
      refine lv_iload_n hx hb dX0_regretOfAll_16 rfl (lv_at hl 1 rfl) ?_
      refine lv_icmp_ge (tgt := 36) hx hb dX0_regretOfAll_17 (by decide) (fun q => absurd q ((nI_ge (by omega) (by omega)))) (fun _ => ?_)
      refine lv_iload_n hx hb dX0_regretOfAll_20 rfl (lv_at hl 2 rfl) ?_
      refine lv_aload_n hx hb dX0_regretOfAll_21 rfl (lv_at hl 3 rfl) ?_
      refine lv_iload_n hx hb dX0_regretOfAll_22 rfl (lv_at hl 4 rfl) ?_
      refine lv_iload hx hb dX0_regretOfAll_23 (lv_at hl 0 rfl) ?_
      refine g0i (As := [.int (nI s0), .int (nI i)]) (rest := [.int x]) S (c_regretOfStep l E a σ hO s0 i (by omega) (by omega)) (cwV 2 hts gX0_regretOfAll_X0_regretOfStep rfl rfl rfl hdX0_regretOfStep ⟨Nat.le_of_ble_eq_true rfl, Nat.le_of_ble_eq_true rfl⟩) hK hP rfl hl.1 rfl (Nat.le_of_ble_eq_true rfl) ⟨Nat.zero_le _, Nat.zero_le _⟩ dX0_regretOfAll_25 ?_
      refine lv_iadd hx hb dX0_regretOfAll_28 ?_
      refine lv_istore_n (lv' := [(2, .int (x + (gReg σ s0 i))), (4, .int (nI i)), (3, .int (nI (gpc σ s0))), (0, .ref (a 0)), (1, .int (nI s0))]) hx hb dX0_regretOfAll_29 rfl hl (by decide) rfl (fun ls hl => ?_)
      refine lv_iinc (v := nI (i + 1)) (lv' := [(4, .int (nI (i + 1))), (2, .int (x + (gReg σ s0 i))), (3, .int (nI (gpc σ s0))), (0, .ref (a 0)), (1, .int (nI s0))]) hx hb dX0_regretOfAll_30 hl (k := 1) rfl (nI_1 i) (by decide) rfl (fun ls hl => ?_)
      refine lv_goto (tgt := 14) hx hb dX0_regretOfAll_33 (by decide) ?_
      exact ih (i + 1) (x + (gReg σ s0 i)) ls (by omega) (by rw [hinv]; rfl) (lv_sub hl [0, 2, 1, 3, 4] rfl)
  exact key (gpc σ s0) 0 0 ls (by omega) rfl (lv_sub hl [0, 1, 2, 3, 4] rfl)
theorem hinX0_atExams : ∀ w ∈ wsX00, w ∈ wsX0_atExams := fun w h => List.mem_cons_of_mem _ (List.mem_append_right _ h)
theorem hdX0_atExams : yX0_atExams.cls = RX0 ∧ yX0_atExams.cls ≠ "java/lang/invoke/MethodHandle" ∧ yX0_atExams.cls ≠ "java/lang/invoke/VarHandle" ∧ (parseMethodDescriptor yX0_atExams.desc).map (fun d => d.parameters.length) = some 0 := by decide +kernel
set_option maxHeartbeats 4000000 in
set_option maxRecDepth 100000 in
theorem c_atExams (l : Launch) (E : GE) (a : Nat → Nat) (σ : GS) (hO : GOK σ) : Met l yX0_atExams wsX0_atExams { frames := 2, cells := 0, slots := 0, locals := 41 } (va_Pc [.ref (a 0)] (gB E (gW E a σ))) (vp_Si (fun r => r = gAtE σ)) 0 0 (fun _ => False) := by
  refine w_met (cc := cX0_atExams) (maxL := 3) (ret := (some .int)) (by decide) rfl (Nat.le_of_ble_eq_true rfl) ?_
  intro p e s m below meth c ls S hr hlocks hname hB hl
  obtain ⟨hP, hK⟩ := hB
  obtain ⟨hx, hb, hml, hown, hts⟩ := id S
  have tk := hO.2.1
  have hts0 := hinX0_atExams
  have hl : lv_has ls 3 [(0, .ref (a 0))] := hl
  refine lv_iconst (v := 0) hx hb dX0_atExams_0 (by decide) ?_
  refine lv_istore_n (lv' := [(1, .int 0), (0, .ref (a 0))]) hx hb dX0_atExams_1 rfl hl (by decide) rfl (fun ls hl => ?_)
  refine lv_iconst (v := 0) hx hb dX0_atExams_2 (by decide) ?_
  refine lv_istore_n (lv' := [(2, .int 0), (1, .int 0), (0, .ref (a 0))]) hx hb dX0_atExams_3 rfl hl (by decide) rfl (fun ls hl => ?_)
  have key : ∀ (d i : Nat) (x : Int32) (ls : Array Slot), i + d = gk σ → x = sumI (fun s => b2i (gEx (ge σ) (gst σ s))) i → lv_has ls 3 [(2, .int (nI i)), (1, .int x), (0, .ref (a 0))] → W p l e (headSpec wsX0_atExams { frames := 2, cells := 0, slots := 0, locals := 41 }).room s m [.ref (a 0)].toArray below meth c s.heap [] 0 0 (MQ below (vp_Si (fun r => r = gAtE σ)) [.ref (a 0)].toArray s 0 0 (fun _ => False)) (F0 m 4 ls []) := by
    intro d
    induction d with
    | zero =>
      intro i x ls hi hinv hl
      obtain rfl : i = gk σ := by omega
      refine lv_iload_n hx hb dX0_atExams_4 rfl (lv_at hl 0 rfl) ?_
      refine lv_aload_n hx hb dX0_atExams_5 rfl (lv_at hl 2 rfl) ?_
      refine g_get (σ := σ) hx hb hts hts0 hown hK hP 1 (by decide) (by decide +kernel) rfl rfl dX0_atExams_6 ?_
      refine lv_icmp_ge (tgt := 36) hx hb dX0_atExams_9 (by decide) (fun _ => ?_) (fun q => absurd ((nI_le (Nat.le_refl _) (by omega))) q)
      refine lv_iload_n hx hb dX0_atExams_36 rfl (lv_at hl 1 rfl) ?_
      exact W.iret hx hb hr (fun t ht hW => ⟨_, rfl, hinv, ht⟩) (fun _ h => nomatch h) dX0_atExams_37
    | succ d ih =>
      intro i x ls hi hinv hl
      have t2 := hO.2.2.2.2.1 i
      refine lv_iload_n hx hb dX0_atExams_4 rfl (lv_at hl 0 rfl) ?_
      refine lv_aload_n hx hb dX0_atExams_5 rfl (lv_at hl 2 rfl) ?_
      refine g_get (σ := σ) hx hb hts hts0 hown hK hP 1 (by decide) (by decide +kernel) rfl rfl dX0_atExams_6 ?_
      refine lv_icmp_ge (tgt := 36) hx hb dX0_atExams_9 (by decide) (fun q => absurd q ((nI_ge (by omega) (by omega)))) (fun _ => ?_)
      refine lv_aload_n hx hb dX0_atExams_12 rfl (lv_at hl 2 rfl) ?_
      refine lv_aload_n hx hb dX0_atExams_13 rfl (lv_at hl 2 rfl) ?_
      refine g_get (σ := σ) hx hb hts hts0 hown hK hP 15 (by decide) (by decide +kernel) rfl rfl dX0_atExams_14 ?_
      refine lv_iload_n hx hb dX0_atExams_17 rfl (lv_at hl 0 rfl) ?_
      refine g_at S gX0_atExams_X0_at hK hP 11 rfl (by decide) (v := nI (gst σ i)) (vp_in_nI (by omega) (by decide)) (by rw [nI_clamp (by omega)]) hl.1 (Nat.le_of_ble_eq_true rfl) ⟨Nat.zero_le _, Nat.zero_le _⟩ ⟨Nat.le_of_ble_eq_true rfl, Nat.le_of_ble_eq_true rfl⟩ dX0_atExams_18 ?_
      refine g0i (As := [.int (nI (gst σ i))]) (rest := []) S (c_holdsExam l E a σ (gst σ i) (by omega)) (cwV 1 hts gX0_atExams_X0_holdsExam rfl rfl rfl hdX0_holdsExam ⟨Nat.le_of_ble_eq_true rfl, Nat.le_of_ble_eq_true rfl⟩) hK hP rfl hl.1 rfl (Nat.le_of_ble_eq_true rfl) ⟨Nat.zero_le _, Nat.zero_le _⟩ dX0_atExams_21 ?_
      refine lv_if_eq (tgt := 30) hx hb dX0_atExams_24 (by decide) (fun c24 => ?_) (fun c24 => ?_)
      · refine lv_iinc (v := nI (i + 1)) (lv' := [(2, .int (nI (i + 1))), (1, .int x), (0, .ref (a 0))]) hx hb dX0_atExams_30 hl (k := 0) rfl (nI_1 i) (by decide) rfl (fun ls hl => ?_)
        refine lv_goto (tgt := 4) hx hb dX0_atExams_33 (by decide) ?_
        exact ih (i + 1) x ls (by omega) (by first | (rw [hinv, sumI, b2i_eq0.mp c24]; exact (Int32.add_zero _).symm) | (rw [hinv, sumI, b2i_ne0.mp c24]; rfl)) (lv_sub hl [0, 1, 2] rfl)
      · refine lv_iinc (v := x + 1) (lv' := [(1, .int (x + 1)), (2, .int (nI i)), (0, .ref (a 0))]) hx hb dX0_atExams_27 hl (k := 1) rfl rfl (by decide) rfl (fun ls hl => ?_)
        refine lv_iinc (v := nI (i + 1)) (lv' := [(2, .int (nI (i + 1))), (1, .int (x + 1)), (0, .ref (a 0))]) hx hb dX0_atExams_30 hl (k := 1) rfl (nI_1 i) (by decide) rfl (fun ls hl => ?_)
        refine lv_goto (tgt := 4) hx hb dX0_atExams_33 (by decide) ?_
        exact ih (i + 1) (x + 1) ls (by omega) (by first | (rw [hinv, sumI, b2i_eq0.mp c24]; exact (Int32.add_zero _).symm) | (rw [hinv, sumI, b2i_ne0.mp c24]; rfl)) (lv_sub hl [0, 1, 2] rfl)
  exact key (gk σ) 0 0 ls (by omega) rfl (lv_sub hl [0, 1, 2] rfl)
theorem hinX0_allRegret : ∀ w ∈ wsX00, w ∈ wsX0_allRegret := fun w h => List.mem_cons_of_mem _ (List.mem_append_right _ h)
theorem hdX0_allRegret : yX0_allRegret.cls = RX0 ∧ yX0_allRegret.cls ≠ "java/lang/invoke/MethodHandle" ∧ yX0_allRegret.cls ≠ "java/lang/invoke/VarHandle" ∧ (parseMethodDescriptor yX0_allRegret.desc).map (fun d => d.parameters.length) = some 0 := by decide +kernel
set_option maxHeartbeats 4000000 in
set_option maxRecDepth 100000 in
theorem c_allRegret (l : Launch) (E : GE) (a : Nat → Nat) (σ : GS) (hO : GOK σ) : Met l yX0_allRegret wsX0_allRegret { frames := 4, cells := 0, slots := 0, locals := 91 } (va_Pc [.ref (a 0)] (gB E (gW E a σ))) (vp_Si (fun r => r = gAll σ)) 0 0 (fun _ => False) := by
  refine w_met (cc := cX0_allRegret) (maxL := 3) (ret := (some .int)) (by decide) rfl (Nat.le_of_ble_eq_true rfl) ?_
  intro p e s m below meth c ls S hr hlocks hname hB hl
  obtain ⟨hP, hK⟩ := hB
  obtain ⟨hx, hb, hml, hown, hts⟩ := id S
  have tk := hO.2.1
  have hts0 := hinX0_allRegret
  have hl : lv_has ls 3 [(0, .ref (a 0))] := hl
  refine lv_iconst (v := 0) hx hb dX0_allRegret_0 (by decide) ?_
  refine lv_istore_n (lv' := [(1, .int 0), (0, .ref (a 0))]) hx hb dX0_allRegret_1 rfl hl (by decide) rfl (fun ls hl => ?_)
  refine lv_iconst (v := 0) hx hb dX0_allRegret_2 (by decide) ?_
  refine lv_istore_n (lv' := [(2, .int 0), (1, .int 0), (0, .ref (a 0))]) hx hb dX0_allRegret_3 rfl hl (by decide) rfl (fun ls hl => ?_)
  have key : ∀ (d i : Nat) (x : Int32) (ls : Array Slot), i + d = gk σ → x = sumI (fun s => if gHas σ (gst σ s) then gRegs σ s else 0) i → lv_has ls 3 [(2, .int (nI i)), (1, .int x), (0, .ref (a 0))] → W p l e (headSpec wsX0_allRegret { frames := 4, cells := 0, slots := 0, locals := 91 }).room s m [.ref (a 0)].toArray below meth c s.heap [] 0 0 (MQ below (vp_Si (fun r => r = gAll σ)) [.ref (a 0)].toArray s 0 0 (fun _ => False)) (F0 m 4 ls []) := by
    intro d
    induction d with
    | zero =>
      intro i x ls hi hinv hl
      obtain rfl : i = gk σ := by omega
      refine lv_iload_n hx hb dX0_allRegret_4 rfl (lv_at hl 0 rfl) ?_
      refine lv_aload_n hx hb dX0_allRegret_5 rfl (lv_at hl 2 rfl) ?_
      refine g_get (σ := σ) hx hb hts hts0 hown hK hP 1 (by decide) (by decide +kernel) rfl rfl dX0_allRegret_6 ?_
      refine lv_icmp_ge (tgt := 41) hx hb dX0_allRegret_9 (by decide) (fun _ => ?_) (fun q => absurd ((nI_le (Nat.le_refl _) (by omega))) q)
      refine lv_iload_n hx hb dX0_allRegret_41 rfl (lv_at hl 1 rfl) ?_
      exact W.iret hx hb hr (fun t ht hW => ⟨_, rfl, hinv, ht⟩) (fun _ h => nomatch h) dX0_allRegret_42
    | succ d ih =>
      intro i x ls hi hinv hl
      have t2 := hO.2.2.2.2.1 i
      refine lv_iload_n hx hb dX0_allRegret_4 rfl (lv_at hl 0 rfl) ?_
      refine lv_aload_n hx hb dX0_allRegret_5 rfl (lv_at hl 2 rfl) ?_
      refine g_get (σ := σ) hx hb hts hts0 hown hK hP 1 (by decide) (by decide +kernel) rfl rfl dX0_allRegret_6 ?_
      refine lv_icmp_ge (tgt := 41) hx hb dX0_allRegret_9 (by decide) (fun q => absurd q ((nI_ge (by omega) (by omega)))) (fun _ => ?_)
      refine lv_aload_n hx hb dX0_allRegret_12 rfl (lv_at hl 2 rfl) ?_
      refine lv_aload_n hx hb dX0_allRegret_13 rfl (lv_at hl 2 rfl) ?_
      refine g_get (σ := σ) hx hb hts hts0 hown hK hP 15 (by decide) (by decide +kernel) rfl rfl dX0_allRegret_14 ?_
      refine lv_iload_n hx hb dX0_allRegret_17 rfl (lv_at hl 0 rfl) ?_
      refine g_at S gX0_allRegret_X0_at hK hP 11 rfl (by decide) (v := nI (gst σ i)) (vp_in_nI (by omega) (by decide)) (by rw [nI_clamp (by omega)]) hl.1 (Nat.le_of_ble_eq_true rfl) ⟨Nat.zero_le _, Nat.zero_le _⟩ ⟨Nat.le_of_ble_eq_true rfl, Nat.le_of_ble_eq_true rfl⟩ dX0_allRegret_18 ?_
      refine g0i (As := [.int (nI (gst σ i))]) (rest := []) S (c_hasGrade l E a σ (gst σ i) (by omega)) (cwV 1 hts gX0_allRegret_X0_hasGrade rfl rfl rfl hdX0_hasGrade ⟨Nat.le_of_ble_eq_true rfl, Nat.le_of_ble_eq_true rfl⟩) hK hP rfl hl.1 rfl (Nat.le_of_ble_eq_true rfl) ⟨Nat.zero_le _, Nat.zero_le _⟩ dX0_allRegret_21 ?_
      refine lv_if_eq (tgt := 35) hx hb dX0_allRegret_24 (by decide) (fun c24 => ?_) (fun c24 => ?_)
      · refine lv_iinc (v := nI (i + 1)) (lv' := [(2, .int (nI (i + 1))), (1, .int x), (0, .ref (a 0))]) hx hb dX0_allRegret_35 hl (k := 0) rfl (nI_1 i) (by decide) rfl (fun ls hl => ?_)
        refine lv_goto (tgt := 4) hx hb dX0_allRegret_38 (by decide) ?_
        exact ih (i + 1) x ls (by omega) (by first | (rw [hinv, sumI, b2i_eq0.mp c24]; exact (Int32.add_zero _).symm) | (rw [hinv, sumI, b2i_ne0.mp c24]; rfl)) (lv_sub hl [0, 1, 2] rfl)
      · refine lv_iload_n hx hb dX0_allRegret_27 rfl (lv_at hl 1 rfl) ?_
        refine lv_aload_n hx hb dX0_allRegret_28 rfl (lv_at hl 2 rfl) ?_
        refine lv_iload_n hx hb dX0_allRegret_29 rfl (lv_at hl 0 rfl) ?_
        refine g0i (As := [.int (nI i)]) (rest := [.int x]) S (c_regretOfAll l E a σ hO i (by omega)) (cwV 1 hts gX0_allRegret_X0_regretOfAll rfl rfl rfl hdX0_regretOfAll ⟨Nat.le_of_ble_eq_true rfl, Nat.le_of_ble_eq_true rfl⟩) hK hP rfl hl.1 rfl (Nat.le_of_ble_eq_true rfl) ⟨Nat.zero_le _, Nat.zero_le _⟩ dX0_allRegret_30 ?_
        refine lv_iadd hx hb dX0_allRegret_33 ?_
        refine lv_istore_n (lv' := [(1, .int (x + (gRegs σ i))), (2, .int (nI i)), (0, .ref (a 0))]) hx hb dX0_allRegret_34 rfl hl (by decide) rfl (fun ls hl => ?_)
        refine lv_iinc (v := nI (i + 1)) (lv' := [(2, .int (nI (i + 1))), (1, .int (x + (gRegs σ i))), (0, .ref (a 0))]) hx hb dX0_allRegret_35 hl (k := 1) rfl (nI_1 i) (by decide) rfl (fun ls hl => ?_)
        refine lv_goto (tgt := 4) hx hb dX0_allRegret_38 (by decide) ?_
        exact ih (i + 1) (x + (gRegs σ i)) ls (by omega) (by first | (rw [hinv, sumI, b2i_eq0.mp c24]; exact (Int32.add_zero _).symm) | (rw [hinv, sumI, b2i_ne0.mp c24]; rfl)) (lv_sub hl [0, 1, 2] rfl)
  exact key (gk σ) 0 0 ls (by omega) rfl (lv_sub hl [0, 1, 2] rfl)
theorem hinX0_riskiestFork : ∀ w ∈ wsX00, w ∈ wsX0_riskiestFork := fun w h => List.mem_cons_of_mem _ (List.mem_append_right _ h)
theorem hdX0_riskiestFork : yX0_riskiestFork.cls = RX0 ∧ yX0_riskiestFork.cls ≠ "java/lang/invoke/MethodHandle" ∧ yX0_riskiestFork.cls ≠ "java/lang/invoke/VarHandle" ∧ (parseMethodDescriptor yX0_riskiestFork.desc).map (fun d => d.parameters.length) = some 0 := by decide +kernel
set_option maxHeartbeats 4000000 in
set_option maxRecDepth 100000 in
theorem c_riskiestFork (l : Launch) (E : GE) (a : Nat → Nat) (σ : GS) (hO : GOK σ) : Met l yX0_riskiestFork wsX0_riskiestFork { frames := 4, cells := 0, slots := 0, locals := 88 } (va_Pc [.ref (a 0)] (gB E (gW E a σ))) (vp_Si (fun r => r = (gRf σ).1)) 0 0 (fun _ => False) := by
  refine w_met (cc := cX0_riskiestFork) (maxL := 4) (ret := (some .int)) (by decide) rfl (Nat.le_of_ble_eq_true rfl) ?_
  intro p e s m below meth c ls S hr hlocks hname hB hl
  obtain ⟨hP, hK⟩ := hB
  obtain ⟨hx, hb, hml, hown, hts⟩ := id S
  have tn := hO.1
  have hts0 := hinX0_riskiestFork
  have hl : lv_has ls 4 [(0, .ref (a 0))] := hl
  refine lv_iconst (v := -1) hx hb dX0_riskiestFork_0 (by decide) ?_
  refine lv_istore_n (lv' := [(1, .int ((-1))), (0, .ref (a 0))]) hx hb dX0_riskiestFork_1 rfl hl (by decide) rfl (fun ls hl => ?_)
  refine lv_iconst (v := -1) hx hb dX0_riskiestFork_2 (by decide) ?_
  refine lv_istore_n (lv' := [(2, .int ((-1))), (1, .int ((-1))), (0, .ref (a 0))]) hx hb dX0_riskiestFork_3 rfl hl (by decide) rfl (fun ls hl => ?_)
  refine lv_iconst (v := 0) hx hb dX0_riskiestFork_4 (by decide) ?_
  refine lv_istore_n (lv' := [(3, .int 0), (2, .int ((-1))), (1, .int ((-1))), (0, .ref (a 0))]) hx hb dX0_riskiestFork_5 rfl hl (by decide) rfl (fun ls hl => ?_)
  have key : ∀ (d i : Nat) (x : Int32) (y : Int32) (ls : Array Slot), i + d = gn σ → (x, y) = amx nI (fun p => if gEx (ge σ) p then -1 else gSm σ p) (-1, -1) i → lv_has ls 4 [(3, .int (nI i)), (2, .int y), (1, .int x), (0, .ref (a 0))] → W p l e (headSpec wsX0_riskiestFork { frames := 4, cells := 0, slots := 0, locals := 88 }).room s m [.ref (a 0)].toArray below meth c s.heap [] 0 0 (MQ below (vp_Si (fun r => r = (gRf σ).1)) [.ref (a 0)].toArray s 0 0 (fun _ => False)) (F0 m 6 ls []) := by
    intro d
    induction d with
    | zero =>
      intro i x y ls hi hinv hl
      obtain rfl : i = gn σ := by omega
      refine lv_iload_n hx hb dX0_riskiestFork_6 rfl (lv_at hl 0 rfl) ?_
      refine lv_aload_n hx hb dX0_riskiestFork_7 rfl (lv_at hl 3 rfl) ?_
      refine g_get (σ := σ) hx hb hts hts0 hown hK hP 0 (by decide) (by decide +kernel) rfl rfl dX0_riskiestFork_8 ?_
      refine lv_icmp_ge (tgt := 45) hx hb dX0_riskiestFork_11 (by decide) (fun _ => ?_) (fun q => absurd ((nI_le (Nat.le_refl _) (by omega))) q)
      refine lv_iload_n hx hb dX0_riskiestFork_45 rfl (lv_at hl 2 rfl) ?_
      exact W.iret hx hb hr (fun t ht hW => ⟨_, rfl, (congrArg Prod.fst hinv), ht⟩) (fun _ h => nomatch h) dX0_riskiestFork_46
    | succ d ih =>
      intro i x y ls hi hinv hl
      refine lv_iload_n hx hb dX0_riskiestFork_6 rfl (lv_at hl 0 rfl) ?_
      refine lv_aload_n hx hb dX0_riskiestFork_7 rfl (lv_at hl 3 rfl) ?_
      refine g_get (σ := σ) hx hb hts hts0 hown hK hP 0 (by decide) (by decide +kernel) rfl rfl dX0_riskiestFork_8 ?_
      refine lv_icmp_ge (tgt := 45) hx hb dX0_riskiestFork_11 (by decide) (fun q => absurd q ((nI_ge (by omega) (by omega)))) (fun _ => ?_)
      refine lv_aload_n hx hb dX0_riskiestFork_14 rfl (lv_at hl 3 rfl) ?_
      refine lv_iload_n hx hb dX0_riskiestFork_15 rfl (lv_at hl 0 rfl) ?_
      refine g0i (As := [.int (nI i)]) (rest := []) S (c_holdsExam l E a σ i (by omega)) (cwV 1 hts gX0_riskiestFork_X0_holdsExam rfl rfl rfl hdX0_holdsExam ⟨Nat.le_of_ble_eq_true rfl, Nat.le_of_ble_eq_true rfl⟩) hK hP rfl hl.1 rfl (Nat.le_of_ble_eq_true rfl) ⟨Nat.zero_le _, Nat.zero_le _⟩ dX0_riskiestFork_16 ?_
      refine lv_if_ne (tgt := 39) hx hb dX0_riskiestFork_19 (by decide) (fun c19 => ?_) (fun c19 => ?_)
      · refine lv_iinc (v := nI (i + 1)) (lv' := [(3, .int (nI (i + 1))), (2, .int y), (1, .int x), (0, .ref (a 0))]) hx hb dX0_riskiestFork_39 hl (k := 0) rfl (nI_1 i) (by decide) rfl (fun ls hl => ?_)
        refine lv_goto (tgt := 6) hx hb dX0_riskiestFork_42 (by decide) ?_
        exact ih (i + 1) x y ls (by omega) (by first | (rw [amx, ← hinv, if_pos (b2i_ne0.mp c19), if_neg (fun h => Int32.not_le.mpr h (by have q := amx_ge nI (fun p => if gEx (ge σ) p then -1 else gSm σ p) i; rw [← hinv] at q; exact q))]) | (rw [amx, ← hinv, b2i_eq0.mp c19]; exact (if_neg (fun h => Int32.not_le.mpr h c28)).symm) | (rw [amx, ← hinv, b2i_eq0.mp c19]; exact (if_pos (Int32.not_le.mp c28)).symm)) (lv_sub hl [0, 1, 2, 3] rfl)
      · refine lv_aload_n hx hb dX0_riskiestFork_22 rfl (lv_at hl 3 rfl) ?_
        refine lv_iload_n hx hb dX0_riskiestFork_23 rfl (lv_at hl 0 rfl) ?_
        refine g0i (As := [.int (nI i)]) (rest := []) S (c_smallerRisk l E a σ hO i (by omega)) (cwV 1 hts gX0_riskiestFork_X0_smallerRisk rfl rfl rfl hdX0_smallerRisk ⟨Nat.le_of_ble_eq_true rfl, Nat.le_of_ble_eq_true rfl⟩) hK hP rfl hl.1 rfl (Nat.le_of_ble_eq_true rfl) ⟨Nat.zero_le _, Nat.zero_le _⟩ dX0_riskiestFork_24 ?_
        refine lv_iload_n hx hb dX0_riskiestFork_27 rfl (lv_at hl 1 rfl) ?_
        refine lv_icmp_le (tgt := 39) hx hb dX0_riskiestFork_28 (by decide) (fun c28 => ?_) (fun c28 => ?_)
        · refine lv_iinc (v := nI (i + 1)) (lv' := [(3, .int (nI (i + 1))), (2, .int y), (1, .int x), (0, .ref (a 0))]) hx hb dX0_riskiestFork_39 hl (k := 0) rfl (nI_1 i) (by decide) rfl (fun ls hl => ?_)
          refine lv_goto (tgt := 6) hx hb dX0_riskiestFork_42 (by decide) ?_
          exact ih (i + 1) x y ls (by omega) (by first | (rw [amx, ← hinv, if_pos (b2i_ne0.mp c19), if_neg (fun h => Int32.not_le.mpr h (by have q := amx_ge nI (fun p => if gEx (ge σ) p then -1 else gSm σ p) i; rw [← hinv] at q; exact q))]) | (rw [amx, ← hinv, b2i_eq0.mp c19]; exact (if_neg (fun h => Int32.not_le.mpr h c28)).symm) | (rw [amx, ← hinv, b2i_eq0.mp c19]; exact (if_pos (Int32.not_le.mp c28)).symm)) (lv_sub hl [0, 1, 2, 3] rfl)
        · refine lv_iload_n hx hb dX0_riskiestFork_31 rfl (lv_at hl 0 rfl) ?_
          refine lv_istore_n (lv' := [(1, .int (nI i)), (3, .int (nI i)), (2, .int y), (0, .ref (a 0))]) hx hb dX0_riskiestFork_32 rfl hl (by decide) rfl (fun ls hl => ?_)
          refine lv_aload_n hx hb dX0_riskiestFork_33 rfl (lv_at hl 3 rfl) ?_
          refine lv_iload_n hx hb dX0_riskiestFork_34 rfl (lv_at hl 1 rfl) ?_
          refine g0i (As := [.int (nI i)]) (rest := []) S (c_smallerRisk l E a σ hO i (by omega)) (cwV 1 hts gX0_riskiestFork_X0_smallerRisk rfl rfl rfl hdX0_smallerRisk ⟨Nat.le_of_ble_eq_true rfl, Nat.le_of_ble_eq_true rfl⟩) hK hP rfl hl.1 rfl (Nat.le_of_ble_eq_true rfl) ⟨Nat.zero_le _, Nat.zero_le _⟩ dX0_riskiestFork_35 ?_
          refine lv_istore_n (lv' := [(2, .int (gSm σ i)), (1, .int (nI i)), (3, .int (nI i)), (0, .ref (a 0))]) hx hb dX0_riskiestFork_38 rfl hl (by decide) rfl (fun ls hl => ?_)
          refine lv_iinc (v := nI (i + 1)) (lv' := [(3, .int (nI (i + 1))), (2, .int (gSm σ i)), (1, .int (nI i)), (0, .ref (a 0))]) hx hb dX0_riskiestFork_39 hl (k := 2) rfl (nI_1 i) (by decide) rfl (fun ls hl => ?_)
          refine lv_goto (tgt := 6) hx hb dX0_riskiestFork_42 (by decide) ?_
          exact ih (i + 1) (nI i) (gSm σ i) ls (by omega) (by first | (rw [amx, ← hinv, if_pos (b2i_ne0.mp c19), if_neg (fun h => Int32.not_le.mpr h (by have q := amx_ge nI (fun p => if gEx (ge σ) p then -1 else gSm σ p) i; rw [← hinv] at q; exact q))]) | (rw [amx, ← hinv, b2i_eq0.mp c19]; exact (if_neg (fun h => Int32.not_le.mpr h c28)).symm) | (rw [amx, ← hinv, b2i_eq0.mp c19]; exact (if_pos (Int32.not_le.mp c28)).symm)) (lv_sub hl [0, 1, 2, 3] rfl)
  exact key (gn σ) 0 ((-1)) ((-1)) ls (by omega) rfl (lv_sub hl [0, 1, 2, 3] rfl)
theorem hinX0_requireRoom : ∀ w ∈ wsX00, w ∈ wsX0_requireRoom := fun w h => List.mem_cons_of_mem _ (List.mem_append_left _ (List.mem_append_right _ h))
theorem hdX0_requireRoom : yX0_requireRoom.cls = RX0 ∧ yX0_requireRoom.cls ≠ "java/lang/invoke/MethodHandle" ∧ yX0_requireRoom.cls ≠ "java/lang/invoke/VarHandle" ∧ (parseMethodDescriptor yX0_requireRoom.desc).map (fun d => d.parameters.length) = some 0 := by decide +kernel
set_option maxHeartbeats 4000000 in
set_option maxRecDepth 100000 in
theorem c_requireRoom (l : Launch) (E : GE) (a : Nat → Nat) (σ : GS) (h : gn σ < 40) : Met l yX0_requireRoom wsX0_requireRoom { frames := 0, cells := 0, slots := 0, locals := 0 } (va_Pc [.ref (a 0)] (gB E (gW E a σ))) (va_Sv (fun _ => True)) 0 0 (fun _ => False) := by
  refine w_met (cc := cX0_requireRoom) (maxL := 1) (ret := none) (by decide) rfl (Nat.le_of_ble_eq_true rfl) ?_
  intro p e s m below meth c ls S hr hlocks hname hB hl
  obtain ⟨hP, hK⟩ := hB
  obtain ⟨hx, hb, hml, hown, hts⟩ := id S
  have hts0 := hinX0_requireRoom
  have hl : lv_has ls 1 [(0, .ref (a 0))] := hl
  refine lv_aload_n hx hb dX0_requireRoom_0 rfl (lv_at hl 0 rfl) ?_
  refine g_get (σ := σ) hx hb hts hts0 hown hK hP 0 (by decide) (by decide +kernel) rfl rfl dX0_requireRoom_1 ?_
  refine lv_bipush (v := nI 40) hx hb dX0_requireRoom_4 (by decide) ?_
  refine lv_icmp_lt (tgt := 19) hx hb dX0_requireRoom_6 (by decide) (fun _ => ?_) (fun q => absurd ((nI_lt (by omega) (by decide))) q)
  exact W.vret hx hb hr (fun t ht hW => ⟨rfl, trivial, ht⟩) (fun _ h => nomatch h) dX0_requireRoom_19
theorem hinX0_requirePlace : ∀ w ∈ wsX00, w ∈ wsX0_requirePlace := fun w h => List.mem_cons_of_mem _ (List.mem_append_left _ (List.mem_append_right _ h))
theorem hdX0_requirePlace : yX0_requirePlace.cls = RX0 ∧ yX0_requirePlace.cls ≠ "java/lang/invoke/MethodHandle" ∧ yX0_requirePlace.cls ≠ "java/lang/invoke/VarHandle" ∧ (parseMethodDescriptor yX0_requirePlace.desc).map (fun d => d.parameters.length) = some 1 := by decide +kernel
set_option maxHeartbeats 4000000 in
set_option maxRecDepth 100000 in
theorem c_requirePlace (l : Launch) (E : GE) (a : Nat → Nat) (σ : GS) (k : Nat) (hn : gn σ ≤ 40) (hk : k < gn σ) : Met l yX0_requirePlace wsX0_requirePlace { frames := 0, cells := 0, slots := 0, locals := 0 } (va_Pc [.ref (a 0), .int (nI k)] (gB E (gW E a σ))) (va_Sv (fun _ => True)) 0 0 (fun _ => False) := by
  refine w_met (cc := cX0_requirePlace) (maxL := 2) (ret := none) (by decide) rfl (Nat.le_of_ble_eq_true rfl) ?_
  intro p e s m below meth c ls S hr hlocks hname hB hl
  obtain ⟨hP, hK⟩ := hB
  obtain ⟨hx, hb, hml, hown, hts⟩ := id S
  have hts0 := hinX0_requirePlace
  have hl : lv_has ls 2 [(0, .ref (a 0)), (1, .int (nI k))] := hl
  refine lv_iload_n hx hb dX0_requirePlace_0 rfl (lv_at hl 1 rfl) ?_
  refine lv_if_lt (tgt := 12) hx hb dX0_requirePlace_1 (by decide) (fun q => absurd q ((nI_pos (by omega)))) (fun _ => ?_)
  refine lv_iload_n hx hb dX0_requirePlace_4 rfl (lv_at hl 1 rfl) ?_
  refine lv_aload_n hx hb dX0_requirePlace_5 rfl (lv_at hl 0 rfl) ?_
  refine g_get (σ := σ) hx hb hts hts0 hown hK hP 0 (by decide) (by decide +kernel) rfl rfl dX0_requirePlace_6 ?_
  refine lv_icmp_lt (tgt := 22) hx hb dX0_requirePlace_9 (by decide) (fun _ => ?_) (fun q => absurd ((nI_lt (by omega) (by omega))) q)
  exact W.vret hx hb hr (fun t ht hW => ⟨rfl, trivial, ht⟩) (fun _ h => nomatch h) dX0_requirePlace_22
theorem hinX0_requireStudent : ∀ w ∈ wsX00, w ∈ wsX0_requireStudent := fun w h => List.mem_cons_of_mem _ (List.mem_append_left _ (List.mem_append_right _ h))
theorem hdX0_requireStudent : yX0_requireStudent.cls = RX0 ∧ yX0_requireStudent.cls ≠ "java/lang/invoke/MethodHandle" ∧ yX0_requireStudent.cls ≠ "java/lang/invoke/VarHandle" ∧ (parseMethodDescriptor yX0_requireStudent.desc).map (fun d => d.parameters.length) = some 1 := by decide +kernel
set_option maxHeartbeats 4000000 in
set_option maxRecDepth 100000 in
theorem c_requireStudent (l : Launch) (E : GE) (a : Nat → Nat) (σ : GS) (k : Nat) (hn : gk σ ≤ 8) (hk : k < gk σ) : Met l yX0_requireStudent wsX0_requireStudent { frames := 0, cells := 0, slots := 0, locals := 0 } (va_Pc [.ref (a 0), .int (nI k)] (gB E (gW E a σ))) (va_Sv (fun _ => True)) 0 0 (fun _ => False) := by
  refine w_met (cc := cX0_requireStudent) (maxL := 2) (ret := none) (by decide) rfl (Nat.le_of_ble_eq_true rfl) ?_
  intro p e s m below meth c ls S hr hlocks hname hB hl
  obtain ⟨hP, hK⟩ := hB
  obtain ⟨hx, hb, hml, hown, hts⟩ := id S
  have hts0 := hinX0_requireStudent
  have hl : lv_has ls 2 [(0, .ref (a 0)), (1, .int (nI k))] := hl
  refine lv_iload_n hx hb dX0_requireStudent_0 rfl (lv_at hl 1 rfl) ?_
  refine lv_if_lt (tgt := 12) hx hb dX0_requireStudent_1 (by decide) (fun q => absurd q ((nI_pos (by omega)))) (fun _ => ?_)
  refine lv_iload_n hx hb dX0_requireStudent_4 rfl (lv_at hl 1 rfl) ?_
  refine lv_aload_n hx hb dX0_requireStudent_5 rfl (lv_at hl 0 rfl) ?_
  refine g_get (σ := σ) hx hb hts hts0 hown hK hP 1 (by decide) (by decide +kernel) rfl rfl dX0_requireStudent_6 ?_
  refine lv_icmp_lt (tgt := 23) hx hb dX0_requireStudent_9 (by decide) (fun _ => ?_) (fun q => absurd ((nI_lt (by omega) (by omega))) q)
  exact W.vret hx hb hr (fun t ht hW => ⟨rfl, trivial, ht⟩) (fun _ h => nomatch h) dX0_requireStudent_23
theorem hinX0_requireExam : ∀ w ∈ wsX00, w ∈ wsX0_requireExam := fun w h => List.mem_cons_of_mem _ (List.mem_append_left _ (List.mem_append_right _ h))
theorem hdX0_requireExam : yX0_requireExam.cls = RX0 ∧ yX0_requireExam.cls ≠ "java/lang/invoke/MethodHandle" ∧ yX0_requireExam.cls ≠ "java/lang/invoke/VarHandle" ∧ (parseMethodDescriptor yX0_requireExam.desc).map (fun d => d.parameters.length) = some 1 := by decide +kernel
set_option maxHeartbeats 4000000 in
set_option maxRecDepth 100000 in
theorem c_requireExam (l : Launch) (E : GE) (a : Nat → Nat) (σ : GS) (k : Nat) (hn : gn σ ≤ 40) (hk : k < gn σ) (hE : gEx (ge σ) k = true) : Met l yX0_requireExam wsX0_requireExam { frames := 2, cells := 0, slots := 0, locals := 41 } (va_Pc [.ref (a 0), .int (nI k)] (gB E (gW E a σ))) (va_Sv (fun _ => True)) 0 0 (fun _ => False) := by
  refine w_met (cc := cX0_requireExam) (maxL := 2) (ret := none) (by decide) rfl (Nat.le_of_ble_eq_true rfl) ?_
  intro p e s m below meth c ls S hr hlocks hname hB hl
  obtain ⟨hP, hK⟩ := hB
  obtain ⟨hx, hb, hml, hown, hts⟩ := id S
  have hts0 := hinX0_requireExam
  have hl : lv_has ls 2 [(0, .ref (a 0)), (1, .int (nI k))] := hl
  refine lv_aload_n hx hb dX0_requireExam_0 rfl (lv_at hl 0 rfl) ?_
  refine lv_iload_n hx hb dX0_requireExam_1 rfl (lv_at hl 1 rfl) ?_
  refine g0v (As := [.int (nI k)]) (rest := []) S (c_requirePlace l E a σ k (by omega) (by omega)) (cwV 1 hts gX0_requireExam_X0_requirePlace rfl rfl rfl hdX0_requirePlace ⟨Nat.le_of_ble_eq_true rfl, Nat.le_of_ble_eq_true rfl⟩) hK hP rfl hl.1 rfl (Nat.le_of_ble_eq_true rfl) ⟨Nat.zero_le _, Nat.zero_le _⟩ dX0_requireExam_2 ?_
  refine lv_aload_n hx hb dX0_requireExam_5 rfl (lv_at hl 0 rfl) ?_
  refine lv_iload_n hx hb dX0_requireExam_6 rfl (lv_at hl 1 rfl) ?_
  refine g0i (As := [.int (nI k)]) (rest := []) S (c_holdsExam l E a σ k (by omega)) (cwV 1 hts gX0_requireExam_X0_holdsExam rfl rfl rfl hdX0_holdsExam ⟨Nat.le_of_ble_eq_true rfl, Nat.le_of_ble_eq_true rfl⟩) hK hP rfl hl.1 rfl (Nat.le_of_ble_eq_true rfl) ⟨Nat.zero_le _, Nat.zero_le _⟩ dX0_requireExam_7 ?_
  refine lv_if_ne (tgt := 23) hx hb dX0_requireExam_10 (by decide) (fun _ => ?_) (fun q => absurd q ((b2i_ne0.mpr hE)))
  exact W.vret hx hb hr (fun t ht hW => ⟨rfl, trivial, ht⟩) (fun _ h => nomatch h) dX0_requireExam_23
theorem hinX0_requireFork : ∀ w ∈ wsX00, w ∈ wsX0_requireFork := fun w h => List.mem_cons_of_mem _ (List.mem_append_left _ (List.mem_append_right _ h))
theorem hdX0_requireFork : yX0_requireFork.cls = RX0 ∧ yX0_requireFork.cls ≠ "java/lang/invoke/MethodHandle" ∧ yX0_requireFork.cls ≠ "java/lang/invoke/VarHandle" ∧ (parseMethodDescriptor yX0_requireFork.desc).map (fun d => d.parameters.length) = some 1 := by decide +kernel
set_option maxHeartbeats 4000000 in
set_option maxRecDepth 100000 in
theorem c_requireFork (l : Launch) (E : GE) (a : Nat → Nat) (σ : GS) (k : Nat) (hn : gn σ ≤ 40) (hk : k < gn σ) (hE : gEx (ge σ) k = false) : Met l yX0_requireFork wsX0_requireFork { frames := 2, cells := 0, slots := 0, locals := 41 } (va_Pc [.ref (a 0), .int (nI k)] (gB E (gW E a σ))) (va_Sv (fun _ => True)) 0 0 (fun _ => False) := by
  refine w_met (cc := cX0_requireFork) (maxL := 2) (ret := none) (by decide) rfl (Nat.le_of_ble_eq_true rfl) ?_
  intro p e s m below meth c ls S hr hlocks hname hB hl
  obtain ⟨hP, hK⟩ := hB
  obtain ⟨hx, hb, hml, hown, hts⟩ := id S
  have hts0 := hinX0_requireFork
  have hl : lv_has ls 2 [(0, .ref (a 0)), (1, .int (nI k))] := hl
  refine lv_aload_n hx hb dX0_requireFork_0 rfl (lv_at hl 0 rfl) ?_
  refine lv_iload_n hx hb dX0_requireFork_1 rfl (lv_at hl 1 rfl) ?_
  refine g0v (As := [.int (nI k)]) (rest := []) S (c_requirePlace l E a σ k (by omega) (by omega)) (cwV 1 hts gX0_requireFork_X0_requirePlace rfl rfl rfl hdX0_requirePlace ⟨Nat.le_of_ble_eq_true rfl, Nat.le_of_ble_eq_true rfl⟩) hK hP rfl hl.1 rfl (Nat.le_of_ble_eq_true rfl) ⟨Nat.zero_le _, Nat.zero_le _⟩ dX0_requireFork_2 ?_
  refine lv_aload_n hx hb dX0_requireFork_5 rfl (lv_at hl 0 rfl) ?_
  refine lv_iload_n hx hb dX0_requireFork_6 rfl (lv_at hl 1 rfl) ?_
  refine g0i (As := [.int (nI k)]) (rest := []) S (c_holdsExam l E a σ k (by omega)) (cwV 1 hts gX0_requireFork_X0_holdsExam rfl rfl rfl hdX0_holdsExam ⟨Nat.le_of_ble_eq_true rfl, Nat.le_of_ble_eq_true rfl⟩) hK hP rfl hl.1 rfl (Nat.le_of_ble_eq_true rfl) ⟨Nat.zero_le _, Nat.zero_le _⟩ dX0_requireFork_7 ?_
  refine lv_if_eq (tgt := 24) hx hb dX0_requireFork_10 (by decide) (fun _ => ?_) (fun q => absurd ((b2i_eq0.mpr hE)) q)
  exact W.vret hx hb hr (fun t ht hW => ⟨rfl, trivial, ht⟩) (fun _ h => nomatch h) dX0_requireFork_24
theorem hinX0_requireGraded : ∀ w ∈ wsX00, w ∈ wsX0_requireGraded := fun w h => List.mem_cons_of_mem _ (List.mem_append_left _ (List.mem_append_right _ h))
theorem hdX0_requireGraded : yX0_requireGraded.cls = RX0 ∧ yX0_requireGraded.cls ≠ "java/lang/invoke/MethodHandle" ∧ yX0_requireGraded.cls ≠ "java/lang/invoke/VarHandle" ∧ (parseMethodDescriptor yX0_requireGraded.desc).map (fun d => d.parameters.length) = some 1 := by decide +kernel
set_option maxHeartbeats 4000000 in
set_option maxRecDepth 100000 in
theorem c_requireGraded (l : Launch) (E : GE) (a : Nat → Nat) (σ : GS) (hO : GOK σ) (k : Nat) (hk : k < 8) (hG : gHas σ (gst σ k) = true) : Met l yX0_requireGraded wsX0_requireGraded { frames := 2, cells := 0, slots := 0, locals := 42 } (va_Pc [.ref (a 0), .int (nI k)] (gB E (gW E a σ))) (va_Sv (fun _ => True)) 0 0 (fun _ => False) := by
  refine w_met (cc := cX0_requireGraded) (maxL := 2) (ret := none) (by decide) rfl (Nat.le_of_ble_eq_true rfl) ?_
  intro p e s m below meth c ls S hr hlocks hname hB hl
  obtain ⟨hP, hK⟩ := hB
  obtain ⟨hx, hb, hml, hown, hts⟩ := id S
  have t2 := hO.2.2.2.2.1 k
  have hts0 := hinX0_requireGraded
  have hl : lv_has ls 2 [(0, .ref (a 0)), (1, .int (nI k))] := hl
  refine lv_aload_n hx hb dX0_requireGraded_0 rfl (lv_at hl 0 rfl) ?_
  refine lv_aload_n hx hb dX0_requireGraded_1 rfl (lv_at hl 0 rfl) ?_
  refine g_get (σ := σ) hx hb hts hts0 hown hK hP 15 (by decide) (by decide +kernel) rfl rfl dX0_requireGraded_2 ?_
  refine lv_iload_n hx hb dX0_requireGraded_5 rfl (lv_at hl 1 rfl) ?_
  refine g_at S gX0_requireGraded_X0_at hK hP 11 rfl (by decide) (v := nI (gst σ k)) (vp_in_nI (by omega) (by decide)) (by rw [nI_clamp (by omega)]) hl.1 (Nat.le_of_ble_eq_true rfl) ⟨Nat.zero_le _, Nat.zero_le _⟩ ⟨Nat.le_of_ble_eq_true rfl, Nat.le_of_ble_eq_true rfl⟩ dX0_requireGraded_6 ?_
  refine g0i (As := [.int (nI (gst σ k))]) (rest := []) S (c_hasGrade l E a σ (gst σ k) (by omega)) (cwV 1 hts gX0_requireGraded_X0_hasGrade rfl rfl rfl hdX0_hasGrade ⟨Nat.le_of_ble_eq_true rfl, Nat.le_of_ble_eq_true rfl⟩) hK hP rfl hl.1 rfl (Nat.le_of_ble_eq_true rfl) ⟨Nat.zero_le _, Nat.zero_le _⟩ dX0_requireGraded_9 ?_
  refine lv_if_ne (tgt := 26) hx hb dX0_requireGraded_12 (by decide) (fun _ => ?_) (fun q => absurd q ((b2i_ne0.mpr hG)))
  exact W.vret hx hb hr (fun t ht hW => ⟨rfl, trivial, ht⟩) (fun _ h => nomatch h) dX0_requireGraded_26
theorem hinX0_sureGrade : ∀ w ∈ wsX00, w ∈ wsX0_sureGrade := fun w h => List.mem_cons_of_mem _ (List.mem_append_left _ (List.mem_append_right _ h))
theorem hdX0_sureGrade : yX0_sureGrade.cls = RX0 ∧ yX0_sureGrade.cls ≠ "java/lang/invoke/MethodHandle" ∧ yX0_sureGrade.cls ≠ "java/lang/invoke/VarHandle" ∧ (parseMethodDescriptor yX0_sureGrade.desc).map (fun d => d.parameters.length) = some 1 := by decide +kernel
set_option maxHeartbeats 4000000 in
set_option maxRecDepth 100000 in
theorem c_sureGrade (l : Launch) (E : GE) (a : Nat → Nat) (σ : GS) (k : Nat) (hn : gn σ ≤ 40) (hk : k < gn σ) : Met l yX0_sureGrade wsX0_sureGrade { frames := 1, cells := 0, slots := 0, locals := 21 } (va_Pc [.ref (a 0), .int (nI k)] (gB E (gW E a σ))) (vp_Si (fun r => r = gsu σ k)) 0 0 (fun _ => False) := by
  refine w_met (cc := cX0_sureGrade) (maxL := 2) (ret := (some .int)) (by decide) rfl (Nat.le_of_ble_eq_true rfl) ?_
  intro p e s m below meth c ls S hr hlocks hname hB hl
  obtain ⟨hP, hK⟩ := hB
  obtain ⟨hx, hb, hml, hown, hts⟩ := id S
  have hts0 := hinX0_sureGrade
  have hl : lv_has ls 2 [(0, .ref (a 0)), (1, .int (nI k))] := hl
  refine lv_aload_n hx hb dX0_sureGrade_0 rfl (lv_at hl 0 rfl) ?_
  refine lv_iload_n hx hb dX0_sureGrade_1 rfl (lv_at hl 1 rfl) ?_
  refine g0v (As := [.int (nI k)]) (rest := []) S (c_requirePlace l E a σ k (by omega) (by omega)) (cwV 1 hts gX0_sureGrade_X0_requirePlace rfl rfl rfl hdX0_requirePlace ⟨Nat.le_of_ble_eq_true rfl, Nat.le_of_ble_eq_true rfl⟩) hK hP rfl hl.1 rfl (Nat.le_of_ble_eq_true rfl) ⟨Nat.zero_le _, Nat.zero_le _⟩ dX0_sureGrade_2 ?_
  refine lv_aload_n hx hb dX0_sureGrade_5 rfl (lv_at hl 0 rfl) ?_
  refine g_get (σ := σ) hx hb hts hts0 hown hK hP 11 (by decide) (by decide +kernel) rfl rfl dX0_sureGrade_6 ?_
  refine lv_iload_n hx hb dX0_sureGrade_9 rfl (lv_at hl 1 rfl) ?_
  refine g_at S gX0_sureGrade_X0_at hK hP 7 rfl (by decide) (v := gsu σ k) (vp_in_nI (by omega) (by decide)) (by rw [nI_clamp (by omega)]) hl.1 (Nat.le_of_ble_eq_true rfl) ⟨Nat.zero_le _, Nat.zero_le _⟩ ⟨Nat.le_of_ble_eq_true rfl, Nat.le_of_ble_eq_true rfl⟩ dX0_sureGrade_10 ?_
  exact W.iret hx hb hr (fun t ht hW => ⟨_, rfl, rfl, ht⟩) (fun _ h => nomatch h) dX0_sureGrade_13
theorem hinX0_hope : ∀ w ∈ wsX00, w ∈ wsX0_hope := fun w h => List.mem_cons_of_mem _ (List.mem_append_left _ (List.mem_append_right _ h))
theorem hdX0_hope : yX0_hope.cls = RX0 ∧ yX0_hope.cls ≠ "java/lang/invoke/MethodHandle" ∧ yX0_hope.cls ≠ "java/lang/invoke/VarHandle" ∧ (parseMethodDescriptor yX0_hope.desc).map (fun d => d.parameters.length) = some 1 := by decide +kernel
set_option maxHeartbeats 4000000 in
set_option maxRecDepth 100000 in
theorem c_hope (l : Launch) (E : GE) (a : Nat → Nat) (σ : GS) (k : Nat) (hn : gn σ ≤ 40) (hk : k < gn σ) : Met l yX0_hope wsX0_hope { frames := 1, cells := 0, slots := 0, locals := 21 } (va_Pc [.ref (a 0), .int (nI k)] (gB E (gW E a σ))) (vp_Si (fun r => r = gho σ k)) 0 0 (fun _ => False) := by
  refine w_met (cc := cX0_hope) (maxL := 2) (ret := (some .int)) (by decide) rfl (Nat.le_of_ble_eq_true rfl) ?_
  intro p e s m below meth c ls S hr hlocks hname hB hl
  obtain ⟨hP, hK⟩ := hB
  obtain ⟨hx, hb, hml, hown, hts⟩ := id S
  have hts0 := hinX0_hope
  have hl : lv_has ls 2 [(0, .ref (a 0)), (1, .int (nI k))] := hl
  refine lv_aload_n hx hb dX0_hope_0 rfl (lv_at hl 0 rfl) ?_
  refine lv_iload_n hx hb dX0_hope_1 rfl (lv_at hl 1 rfl) ?_
  refine g0v (As := [.int (nI k)]) (rest := []) S (c_requirePlace l E a σ k (by omega) (by omega)) (cwV 1 hts gX0_hope_X0_requirePlace rfl rfl rfl hdX0_requirePlace ⟨Nat.le_of_ble_eq_true rfl, Nat.le_of_ble_eq_true rfl⟩) hK hP rfl hl.1 rfl (Nat.le_of_ble_eq_true rfl) ⟨Nat.zero_le _, Nat.zero_le _⟩ dX0_hope_2 ?_
  refine lv_aload_n hx hb dX0_hope_5 rfl (lv_at hl 0 rfl) ?_
  refine g_get (σ := σ) hx hb hts hts0 hown hK hP 12 (by decide) (by decide +kernel) rfl rfl dX0_hope_6 ?_
  refine lv_iload_n hx hb dX0_hope_9 rfl (lv_at hl 1 rfl) ?_
  refine g_at S gX0_hope_X0_at hK hP 8 rfl (by decide) (v := gho σ k) (vp_in_nI (by omega) (by decide)) (by rw [nI_clamp (by omega)]) hl.1 (Nat.le_of_ble_eq_true rfl) ⟨Nat.zero_le _, Nat.zero_le _⟩ ⟨Nat.le_of_ble_eq_true rfl, Nat.le_of_ble_eq_true rfl⟩ dX0_hope_10 ?_
  exact W.iret hx hb hr (fun t ht hW => ⟨_, rfl, rfl, ht⟩) (fun _ h => nomatch h) dX0_hope_13
theorem hinX0_leftOf : ∀ w ∈ wsX00, w ∈ wsX0_leftOf := fun w h => List.mem_cons_of_mem _ (List.mem_append_left _ (List.mem_append_right _ h))
theorem hdX0_leftOf : yX0_leftOf.cls = RX0 ∧ yX0_leftOf.cls ≠ "java/lang/invoke/MethodHandle" ∧ yX0_leftOf.cls ≠ "java/lang/invoke/VarHandle" ∧ (parseMethodDescriptor yX0_leftOf.desc).map (fun d => d.parameters.length) = some 1 := by decide +kernel
set_option maxHeartbeats 4000000 in
set_option maxRecDepth 100000 in
theorem c_leftOf (l : Launch) (E : GE) (a : Nat → Nat) (σ : GS) (k : Nat) (hn : gn σ ≤ 40) (hk : k < gn σ) (hE : gEx (ge σ) k = false) : Met l yX0_leftOf wsX0_leftOf { frames := 3, cells := 0, slots := 0, locals := 62 } (va_Pc [.ref (a 0), .int (nI k)] (gB E (gW E a σ))) (vp_Si (fun r => r = nI (glf σ k))) 0 0 (fun _ => False) := by
  refine w_met (cc := cX0_leftOf) (maxL := 2) (ret := (some .int)) (by decide) rfl (Nat.le_of_ble_eq_true rfl) ?_
  intro p e s m below meth c ls S hr hlocks hname hB hl
  obtain ⟨hP, hK⟩ := hB
  obtain ⟨hx, hb, hml, hown, hts⟩ := id S
  have hts0 := hinX0_leftOf
  have hl : lv_has ls 2 [(0, .ref (a 0)), (1, .int (nI k))] := hl
  refine lv_aload_n hx hb dX0_leftOf_0 rfl (lv_at hl 0 rfl) ?_
  refine lv_iload_n hx hb dX0_leftOf_1 rfl (lv_at hl 1 rfl) ?_
  refine g0v (As := [.int (nI k)]) (rest := []) S (c_requireFork l E a σ k (by omega) (by omega) hE) (cwV 1 hts gX0_leftOf_X0_requireFork rfl rfl rfl hdX0_requireFork ⟨Nat.le_of_ble_eq_true rfl, Nat.le_of_ble_eq_true rfl⟩) hK hP rfl hl.1 rfl (Nat.le_of_ble_eq_true rfl) ⟨Nat.zero_le _, Nat.zero_le _⟩ dX0_leftOf_2 ?_
  refine lv_aload_n hx hb dX0_leftOf_5 rfl (lv_at hl 0 rfl) ?_
  refine g_get (σ := σ) hx hb hts hts0 hown hK hP 7 (by decide) (by decide +kernel) rfl rfl dX0_leftOf_6 ?_
  refine lv_iload_n hx hb dX0_leftOf_9 rfl (lv_at hl 1 rfl) ?_
  refine g_at S gX0_leftOf_X0_at hK hP 3 rfl (by decide) (v := nI (glf σ k)) (vp_in_nI (by omega) (by decide)) (by rw [nI_clamp (by omega)]) hl.1 (Nat.le_of_ble_eq_true rfl) ⟨Nat.zero_le _, Nat.zero_le _⟩ ⟨Nat.le_of_ble_eq_true rfl, Nat.le_of_ble_eq_true rfl⟩ dX0_leftOf_10 ?_
  exact W.iret hx hb hr (fun t ht hW => ⟨_, rfl, rfl, ht⟩) (fun _ h => nomatch h) dX0_leftOf_13
theorem hinX0_rightOf : ∀ w ∈ wsX00, w ∈ wsX0_rightOf := fun w h => List.mem_cons_of_mem _ (List.mem_append_left _ (List.mem_append_right _ h))
theorem hdX0_rightOf : yX0_rightOf.cls = RX0 ∧ yX0_rightOf.cls ≠ "java/lang/invoke/MethodHandle" ∧ yX0_rightOf.cls ≠ "java/lang/invoke/VarHandle" ∧ (parseMethodDescriptor yX0_rightOf.desc).map (fun d => d.parameters.length) = some 1 := by decide +kernel
set_option maxHeartbeats 4000000 in
set_option maxRecDepth 100000 in
theorem c_rightOf (l : Launch) (E : GE) (a : Nat → Nat) (σ : GS) (k : Nat) (hn : gn σ ≤ 40) (hk : k < gn σ) (hE : gEx (ge σ) k = false) : Met l yX0_rightOf wsX0_rightOf { frames := 3, cells := 0, slots := 0, locals := 62 } (va_Pc [.ref (a 0), .int (nI k)] (gB E (gW E a σ))) (vp_Si (fun r => r = nI (grt σ k))) 0 0 (fun _ => False) := by
  refine w_met (cc := cX0_rightOf) (maxL := 2) (ret := (some .int)) (by decide) rfl (Nat.le_of_ble_eq_true rfl) ?_
  intro p e s m below meth c ls S hr hlocks hname hB hl
  obtain ⟨hP, hK⟩ := hB
  obtain ⟨hx, hb, hml, hown, hts⟩ := id S
  have hts0 := hinX0_rightOf
  have hl : lv_has ls 2 [(0, .ref (a 0)), (1, .int (nI k))] := hl
  refine lv_aload_n hx hb dX0_rightOf_0 rfl (lv_at hl 0 rfl) ?_
  refine lv_iload_n hx hb dX0_rightOf_1 rfl (lv_at hl 1 rfl) ?_
  refine g0v (As := [.int (nI k)]) (rest := []) S (c_requireFork l E a σ k (by omega) (by omega) hE) (cwV 1 hts gX0_rightOf_X0_requireFork rfl rfl rfl hdX0_requireFork ⟨Nat.le_of_ble_eq_true rfl, Nat.le_of_ble_eq_true rfl⟩) hK hP rfl hl.1 rfl (Nat.le_of_ble_eq_true rfl) ⟨Nat.zero_le _, Nat.zero_le _⟩ dX0_rightOf_2 ?_
  refine lv_aload_n hx hb dX0_rightOf_5 rfl (lv_at hl 0 rfl) ?_
  refine g_get (σ := σ) hx hb hts hts0 hown hK hP 8 (by decide) (by decide +kernel) rfl rfl dX0_rightOf_6 ?_
  refine lv_iload_n hx hb dX0_rightOf_9 rfl (lv_at hl 1 rfl) ?_
  refine g_at S gX0_rightOf_X0_at hK hP 4 rfl (by decide) (v := nI (grt σ k)) (vp_in_nI (by omega) (by decide)) (by rw [nI_clamp (by omega)]) hl.1 (Nat.le_of_ble_eq_true rfl) ⟨Nat.zero_le _, Nat.zero_le _⟩ ⟨Nat.le_of_ble_eq_true rfl, Nat.le_of_ble_eq_true rfl⟩ dX0_rightOf_10 ?_
  exact W.iret hx hb hr (fun t ht hW => ⟨_, rfl, rfl, ht⟩) (fun _ h => nomatch h) dX0_rightOf_13
theorem hinX0_weightOf : ∀ w ∈ wsX00, w ∈ wsX0_weightOf := fun w h => List.mem_cons_of_mem _ (List.mem_append_left _ (List.mem_append_right _ h))
theorem hdX0_weightOf : yX0_weightOf.cls = RX0 ∧ yX0_weightOf.cls ≠ "java/lang/invoke/MethodHandle" ∧ yX0_weightOf.cls ≠ "java/lang/invoke/VarHandle" ∧ (parseMethodDescriptor yX0_weightOf.desc).map (fun d => d.parameters.length) = some 1 := by decide +kernel
set_option maxHeartbeats 4000000 in
set_option maxRecDepth 100000 in
theorem c_weightOf (l : Launch) (E : GE) (a : Nat → Nat) (σ : GS) (k : Nat) (hn : gn σ ≤ 40) (hk : k < gn σ) (hE : gEx (ge σ) k = false) : Met l yX0_weightOf wsX0_weightOf { frames := 3, cells := 0, slots := 0, locals := 62 } (va_Pc [.ref (a 0), .int (nI k)] (gB E (gW E a σ))) (vp_Si (fun r => r = gwt σ k)) 0 0 (fun _ => False) := by
  refine w_met (cc := cX0_weightOf) (maxL := 2) (ret := (some .int)) (by decide) rfl (Nat.le_of_ble_eq_true rfl) ?_
  intro p e s m below meth c ls S hr hlocks hname hB hl
  obtain ⟨hP, hK⟩ := hB
  obtain ⟨hx, hb, hml, hown, hts⟩ := id S
  have hts0 := hinX0_weightOf
  have hl : lv_has ls 2 [(0, .ref (a 0)), (1, .int (nI k))] := hl
  refine lv_aload_n hx hb dX0_weightOf_0 rfl (lv_at hl 0 rfl) ?_
  refine lv_iload_n hx hb dX0_weightOf_1 rfl (lv_at hl 1 rfl) ?_
  refine g0v (As := [.int (nI k)]) (rest := []) S (c_requireFork l E a σ k (by omega) (by omega) hE) (cwV 1 hts gX0_weightOf_X0_requireFork rfl rfl rfl hdX0_requireFork ⟨Nat.le_of_ble_eq_true rfl, Nat.le_of_ble_eq_true rfl⟩) hK hP rfl hl.1 rfl (Nat.le_of_ble_eq_true rfl) ⟨Nat.zero_le _, Nat.zero_le _⟩ dX0_weightOf_2 ?_
  refine lv_aload_n hx hb dX0_weightOf_5 rfl (lv_at hl 0 rfl) ?_
  refine g_get (σ := σ) hx hb hts hts0 hown hK hP 9 (by decide) (by decide +kernel) rfl rfl dX0_weightOf_6 ?_
  refine lv_iload_n hx hb dX0_weightOf_9 rfl (lv_at hl 1 rfl) ?_
  refine g_at S gX0_weightOf_X0_at hK hP 5 rfl (by decide) (v := gwt σ k) (vp_in_nI (by omega) (by decide)) (by rw [nI_clamp (by omega)]) hl.1 (Nat.le_of_ble_eq_true rfl) ⟨Nat.zero_le _, Nat.zero_le _⟩ ⟨Nat.le_of_ble_eq_true rfl, Nat.le_of_ble_eq_true rfl⟩ dX0_weightOf_10 ?_
  exact W.iret hx hb hr (fun t ht hW => ⟨_, rfl, rfl, ht⟩) (fun _ h => nomatch h) dX0_weightOf_13
theorem hinX0_hindsight : ∀ w ∈ wsX00, w ∈ wsX0_hindsight := fun w h => List.mem_cons_of_mem _ (List.mem_append_left _ (List.mem_append_right _ h))
theorem hdX0_hindsight : yX0_hindsight.cls = RX0 ∧ yX0_hindsight.cls ≠ "java/lang/invoke/MethodHandle" ∧ yX0_hindsight.cls ≠ "java/lang/invoke/VarHandle" ∧ (parseMethodDescriptor yX0_hindsight.desc).map (fun d => d.parameters.length) = some 1 := by decide +kernel
set_option maxHeartbeats 4000000 in
set_option maxRecDepth 100000 in
theorem c_hindsight (l : Launch) (E : GE) (a : Nat → Nat) (σ : GS) (k : Nat) (hn : gn σ ≤ 40) (hk : k < gn σ) (hE : gEx (ge σ) k = false) : Met l yX0_hindsight wsX0_hindsight { frames := 3, cells := 0, slots := 0, locals := 62 } (va_Pc [.ref (a 0), .int (nI k)] (gB E (gW E a σ))) (vp_Si (fun r => r = ghs σ k)) 0 0 (fun _ => False) := by
  refine w_met (cc := cX0_hindsight) (maxL := 2) (ret := (some .int)) (by decide) rfl (Nat.le_of_ble_eq_true rfl) ?_
  intro p e s m below meth c ls S hr hlocks hname hB hl
  obtain ⟨hP, hK⟩ := hB
  obtain ⟨hx, hb, hml, hown, hts⟩ := id S
  have hts0 := hinX0_hindsight
  have hl : lv_has ls 2 [(0, .ref (a 0)), (1, .int (nI k))] := hl
  refine lv_aload_n hx hb dX0_hindsight_0 rfl (lv_at hl 0 rfl) ?_
  refine lv_iload_n hx hb dX0_hindsight_1 rfl (lv_at hl 1 rfl) ?_
  refine g0v (As := [.int (nI k)]) (rest := []) S (c_requireFork l E a σ k (by omega) (by omega) hE) (cwV 1 hts gX0_hindsight_X0_requireFork rfl rfl rfl hdX0_requireFork ⟨Nat.le_of_ble_eq_true rfl, Nat.le_of_ble_eq_true rfl⟩) hK hP rfl hl.1 rfl (Nat.le_of_ble_eq_true rfl) ⟨Nat.zero_le _, Nat.zero_le _⟩ dX0_hindsight_2 ?_
  refine lv_aload_n hx hb dX0_hindsight_5 rfl (lv_at hl 0 rfl) ?_
  refine g_get (σ := σ) hx hb hts hts0 hown hK hP 13 (by decide) (by decide +kernel) rfl rfl dX0_hindsight_6 ?_
  refine lv_iload_n hx hb dX0_hindsight_9 rfl (lv_at hl 1 rfl) ?_
  refine g_at S gX0_hindsight_X0_at hK hP 9 rfl (by decide) (v := ghs σ k) (vp_in_nI (by omega) (by decide)) (by rw [nI_clamp (by omega)]) hl.1 (Nat.le_of_ble_eq_true rfl) ⟨Nat.zero_le _, Nat.zero_le _⟩ ⟨Nat.le_of_ble_eq_true rfl, Nat.le_of_ble_eq_true rfl⟩ dX0_hindsight_10 ?_
  exact W.iret hx hb hr (fun t ht hW => ⟨_, rfl, rfl, ht⟩) (fun _ h => nomatch h) dX0_hindsight_13
theorem hinX0_gradeOf : ∀ w ∈ wsX00, w ∈ wsX0_gradeOf := fun w h => List.mem_cons_of_mem _ (List.mem_append_left _ (List.mem_append_right _ h))
theorem hdX0_gradeOf : yX0_gradeOf.cls = RX0 ∧ yX0_gradeOf.cls ≠ "java/lang/invoke/MethodHandle" ∧ yX0_gradeOf.cls ≠ "java/lang/invoke/VarHandle" ∧ (parseMethodDescriptor yX0_gradeOf.desc).map (fun d => d.parameters.length) = some 1 := by decide +kernel
set_option maxHeartbeats 4000000 in
set_option maxRecDepth 100000 in
theorem c_gradeOf (l : Launch) (E : GE) (a : Nat → Nat) (σ : GS) (k : Nat) (hn : gn σ ≤ 40) (hk : k < gn σ) (hE : gEx (ge σ) k = true) : Met l yX0_gradeOf wsX0_gradeOf { frames := 3, cells := 0, slots := 0, locals := 62 } (va_Pc [.ref (a 0), .int (nI k)] (gB E (gW E a σ))) (vp_Si (fun r => r = ggr σ k)) 0 0 (fun _ => False) := by
  refine w_met (cc := cX0_gradeOf) (maxL := 2) (ret := (some .int)) (by decide) rfl (Nat.le_of_ble_eq_true rfl) ?_
  intro p e s m below meth c ls S hr hlocks hname hB hl
  obtain ⟨hP, hK⟩ := hB
  obtain ⟨hx, hb, hml, hown, hts⟩ := id S
  have hts0 := hinX0_gradeOf
  have hl : lv_has ls 2 [(0, .ref (a 0)), (1, .int (nI k))] := hl
  refine lv_aload_n hx hb dX0_gradeOf_0 rfl (lv_at hl 0 rfl) ?_
  refine lv_iload_n hx hb dX0_gradeOf_1 rfl (lv_at hl 1 rfl) ?_
  refine g0v (As := [.int (nI k)]) (rest := []) S (c_requireExam l E a σ k (by omega) (by omega) hE) (cwV 1 hts gX0_gradeOf_X0_requireExam rfl rfl rfl hdX0_requireExam ⟨Nat.le_of_ble_eq_true rfl, Nat.le_of_ble_eq_true rfl⟩) hK hP rfl hl.1 rfl (Nat.le_of_ble_eq_true rfl) ⟨Nat.zero_le _, Nat.zero_le _⟩ dX0_gradeOf_2 ?_
  refine lv_aload_n hx hb dX0_gradeOf_5 rfl (lv_at hl 0 rfl) ?_
  refine g_get (σ := σ) hx hb hts hts0 hown hK hP 10 (by decide) (by decide +kernel) rfl rfl dX0_gradeOf_6 ?_
  refine lv_iload_n hx hb dX0_gradeOf_9 rfl (lv_at hl 1 rfl) ?_
  refine g_at S gX0_gradeOf_X0_at hK hP 6 rfl (by decide) (v := ggr σ k) (vp_in_nI (by omega) (by decide)) (by rw [nI_clamp (by omega)]) hl.1 (Nat.le_of_ble_eq_true rfl) ⟨Nat.zero_le _, Nat.zero_le _⟩ ⟨Nat.le_of_ble_eq_true rfl, Nat.le_of_ble_eq_true rfl⟩ dX0_gradeOf_10 ?_
  exact W.iret hx hb hr (fun t ht hW => ⟨_, rfl, rfl, ht⟩) (fun _ h => nomatch h) dX0_gradeOf_13
theorem hinX0_isExam : ∀ w ∈ wsX00, w ∈ wsX0_isExam := fun w h => List.mem_cons_of_mem _ (List.mem_append_left _ (List.mem_append_right _ h))
theorem hdX0_isExam : yX0_isExam.cls = RX0 ∧ yX0_isExam.cls ≠ "java/lang/invoke/MethodHandle" ∧ yX0_isExam.cls ≠ "java/lang/invoke/VarHandle" ∧ (parseMethodDescriptor yX0_isExam.desc).map (fun d => d.parameters.length) = some 1 := by decide +kernel
set_option maxHeartbeats 4000000 in
set_option maxRecDepth 100000 in
theorem c_isExam (l : Launch) (E : GE) (a : Nat → Nat) (σ : GS) (k : Nat) (hn : gn σ ≤ 40) (hk : k < gn σ) : Met l yX0_isExam wsX0_isExam { frames := 2, cells := 0, slots := 0, locals := 41 } (va_Pc [.ref (a 0), .int (nI k)] (gB E (gW E a σ))) (vp_Si (fun r => r = b2i (gEx (ge σ) k))) 0 0 (fun _ => False) := by
  refine w_met (cc := cX0_isExam) (maxL := 2) (ret := (some .boolean)) (by decide) rfl (Nat.le_of_ble_eq_true rfl) ?_
  intro p e s m below meth c ls S hr hlocks hname hB hl
  obtain ⟨hP, hK⟩ := hB
  obtain ⟨hx, hb, hml, hown, hts⟩ := id S
  have hts0 := hinX0_isExam
  have hl : lv_has ls 2 [(0, .ref (a 0)), (1, .int (nI k))] := hl
  refine lv_aload_n hx hb dX0_isExam_0 rfl (lv_at hl 0 rfl) ?_
  refine lv_iload_n hx hb dX0_isExam_1 rfl (lv_at hl 1 rfl) ?_
  refine g0v (As := [.int (nI k)]) (rest := []) S (c_requirePlace l E a σ k (by omega) (by omega)) (cwV 1 hts gX0_isExam_X0_requirePlace rfl rfl rfl hdX0_requirePlace ⟨Nat.le_of_ble_eq_true rfl, Nat.le_of_ble_eq_true rfl⟩) hK hP rfl hl.1 rfl (Nat.le_of_ble_eq_true rfl) ⟨Nat.zero_le _, Nat.zero_le _⟩ dX0_isExam_2 ?_
  refine lv_aload_n hx hb dX0_isExam_5 rfl (lv_at hl 0 rfl) ?_
  refine lv_iload_n hx hb dX0_isExam_6 rfl (lv_at hl 1 rfl) ?_
  refine g0i (As := [.int (nI k)]) (rest := []) S (c_holdsExam l E a σ k (by omega)) (cwV 1 hts gX0_isExam_X0_holdsExam rfl rfl rfl hdX0_holdsExam ⟨Nat.le_of_ble_eq_true rfl, Nat.le_of_ble_eq_true rfl⟩) hK hP rfl hl.1 rfl (Nat.le_of_ble_eq_true rfl) ⟨Nat.zero_le _, Nat.zero_le _⟩ dX0_isExam_7 ?_
  exact W.zret hx hb hr (b2i_nar _) (fun t ht hW => ⟨_, rfl, rfl, ht⟩) (fun _ h => nomatch h) dX0_isExam_10
theorem hinX0_isGraded : ∀ w ∈ wsX00, w ∈ wsX0_isGraded := fun w h => List.mem_cons_of_mem _ (List.mem_append_left _ (List.mem_append_right _ h))
theorem hdX0_isGraded : yX0_isGraded.cls = RX0 ∧ yX0_isGraded.cls ≠ "java/lang/invoke/MethodHandle" ∧ yX0_isGraded.cls ≠ "java/lang/invoke/VarHandle" ∧ (parseMethodDescriptor yX0_isGraded.desc).map (fun d => d.parameters.length) = some 1 := by decide +kernel
set_option maxHeartbeats 4000000 in
set_option maxRecDepth 100000 in
theorem c_isGraded (l : Launch) (E : GE) (a : Nat → Nat) (σ : GS) (k : Nat) (hn : gn σ ≤ 40) (hk : k < gn σ) (hE : gEx (ge σ) k = true) : Met l yX0_isGraded wsX0_isGraded { frames := 3, cells := 0, slots := 0, locals := 62 } (va_Pc [.ref (a 0), .int (nI k)] (gB E (gW E a σ))) (vp_Si (fun r => r = b2i (gHas σ k))) 0 0 (fun _ => False) := by
  refine w_met (cc := cX0_isGraded) (maxL := 2) (ret := (some .boolean)) (by decide) rfl (Nat.le_of_ble_eq_true rfl) ?_
  intro p e s m below meth c ls S hr hlocks hname hB hl
  obtain ⟨hP, hK⟩ := hB
  obtain ⟨hx, hb, hml, hown, hts⟩ := id S
  have hts0 := hinX0_isGraded
  have hl : lv_has ls 2 [(0, .ref (a 0)), (1, .int (nI k))] := hl
  refine lv_aload_n hx hb dX0_isGraded_0 rfl (lv_at hl 0 rfl) ?_
  refine lv_iload_n hx hb dX0_isGraded_1 rfl (lv_at hl 1 rfl) ?_
  refine g0v (As := [.int (nI k)]) (rest := []) S (c_requireExam l E a σ k (by omega) (by omega) hE) (cwV 1 hts gX0_isGraded_X0_requireExam rfl rfl rfl hdX0_requireExam ⟨Nat.le_of_ble_eq_true rfl, Nat.le_of_ble_eq_true rfl⟩) hK hP rfl hl.1 rfl (Nat.le_of_ble_eq_true rfl) ⟨Nat.zero_le _, Nat.zero_le _⟩ dX0_isGraded_2 ?_
  refine lv_aload_n hx hb dX0_isGraded_5 rfl (lv_at hl 0 rfl) ?_
  refine lv_iload_n hx hb dX0_isGraded_6 rfl (lv_at hl 1 rfl) ?_
  refine g0i (As := [.int (nI k)]) (rest := []) S (c_hasGrade l E a σ k (by omega)) (cwV 1 hts gX0_isGraded_X0_hasGrade rfl rfl rfl hdX0_hasGrade ⟨Nat.le_of_ble_eq_true rfl, Nat.le_of_ble_eq_true rfl⟩) hK hP rfl hl.1 rfl (Nat.le_of_ble_eq_true rfl) ⟨Nat.zero_le _, Nat.zero_le _⟩ dX0_isGraded_7 ?_
  exact W.zret hx hb hr (b2i_nar _) (fun t ht hW => ⟨_, rfl, rfl, ht⟩) (fun _ h => nomatch h) dX0_isGraded_10
theorem hinX0_placeOf : ∀ w ∈ wsX00, w ∈ wsX0_placeOf := fun w h => List.mem_cons_of_mem _ (List.mem_append_left _ (List.mem_append_right _ h))
theorem hdX0_placeOf : yX0_placeOf.cls = RX0 ∧ yX0_placeOf.cls ≠ "java/lang/invoke/MethodHandle" ∧ yX0_placeOf.cls ≠ "java/lang/invoke/VarHandle" ∧ (parseMethodDescriptor yX0_placeOf.desc).map (fun d => d.parameters.length) = some 1 := by decide +kernel
set_option maxHeartbeats 4000000 in
set_option maxRecDepth 100000 in
theorem c_placeOf (l : Launch) (E : GE) (a : Nat → Nat) (σ : GS) (k : Nat) (hn : gk σ ≤ 8) (hk : k < gk σ) : Met l yX0_placeOf wsX0_placeOf { frames := 1, cells := 0, slots := 0, locals := 21 } (va_Pc [.ref (a 0), .int (nI k)] (gB E (gW E a σ))) (vp_Si (fun r => r = nI (gst σ k))) 0 0 (fun _ => False) := by
  refine w_met (cc := cX0_placeOf) (maxL := 2) (ret := (some .int)) (by decide) rfl (Nat.le_of_ble_eq_true rfl) ?_
  intro p e s m below meth c ls S hr hlocks hname hB hl
  obtain ⟨hP, hK⟩ := hB
  obtain ⟨hx, hb, hml, hown, hts⟩ := id S
  have hts0 := hinX0_placeOf
  have hl : lv_has ls 2 [(0, .ref (a 0)), (1, .int (nI k))] := hl
  refine lv_aload_n hx hb dX0_placeOf_0 rfl (lv_at hl 0 rfl) ?_
  refine lv_iload_n hx hb dX0_placeOf_1 rfl (lv_at hl 1 rfl) ?_
  refine g0v (As := [.int (nI k)]) (rest := []) S (c_requireStudent l E a σ k (by omega) (by omega)) (cwV 1 hts gX0_placeOf_X0_requireStudent rfl rfl rfl hdX0_requireStudent ⟨Nat.le_of_ble_eq_true rfl, Nat.le_of_ble_eq_true rfl⟩) hK hP rfl hl.1 rfl (Nat.le_of_ble_eq_true rfl) ⟨Nat.zero_le _, Nat.zero_le _⟩ dX0_placeOf_2 ?_
  refine lv_aload_n hx hb dX0_placeOf_5 rfl (lv_at hl 0 rfl) ?_
  refine g_get (σ := σ) hx hb hts hts0 hown hK hP 15 (by decide) (by decide +kernel) rfl rfl dX0_placeOf_6 ?_
  refine lv_iload_n hx hb dX0_placeOf_9 rfl (lv_at hl 1 rfl) ?_
  refine g_at S gX0_placeOf_X0_at hK hP 11 rfl (by decide) (v := nI (gst σ k)) (vp_in_nI (by omega) (by decide)) (by rw [nI_clamp (by omega)]) hl.1 (Nat.le_of_ble_eq_true rfl) ⟨Nat.zero_le _, Nat.zero_le _⟩ ⟨Nat.le_of_ble_eq_true rfl, Nat.le_of_ble_eq_true rfl⟩ dX0_placeOf_10 ?_
  exact W.iret hx hb hr (fun t ht hW => ⟨_, rfl, rfl, ht⟩) (fun _ h => nomatch h) dX0_placeOf_13
theorem hinX0_passedBy : ∀ w ∈ wsX00, w ∈ wsX0_passedBy := fun w h => List.mem_cons_of_mem _ (List.mem_append_left _ (List.mem_append_right _ h))
theorem hdX0_passedBy : yX0_passedBy.cls = RX0 ∧ yX0_passedBy.cls ≠ "java/lang/invoke/MethodHandle" ∧ yX0_passedBy.cls ≠ "java/lang/invoke/VarHandle" ∧ (parseMethodDescriptor yX0_passedBy.desc).map (fun d => d.parameters.length) = some 1 := by decide +kernel
set_option maxHeartbeats 4000000 in
set_option maxRecDepth 100000 in
theorem c_passedBy (l : Launch) (E : GE) (a : Nat → Nat) (σ : GS) (k : Nat) (hn : gk σ ≤ 8) (hk : k < gk σ) : Met l yX0_passedBy wsX0_passedBy { frames := 1, cells := 0, slots := 0, locals := 21 } (va_Pc [.ref (a 0), .int (nI k)] (gB E (gW E a σ))) (vp_Si (fun r => r = nI (gpc σ k))) 0 0 (fun _ => False) := by
  refine w_met (cc := cX0_passedBy) (maxL := 2) (ret := (some .int)) (by decide) rfl (Nat.le_of_ble_eq_true rfl) ?_
  intro p e s m below meth c ls S hr hlocks hname hB hl
  obtain ⟨hP, hK⟩ := hB
  obtain ⟨hx, hb, hml, hown, hts⟩ := id S
  have hts0 := hinX0_passedBy
  have hl : lv_has ls 2 [(0, .ref (a 0)), (1, .int (nI k))] := hl
  refine lv_aload_n hx hb dX0_passedBy_0 rfl (lv_at hl 0 rfl) ?_
  refine lv_iload_n hx hb dX0_passedBy_1 rfl (lv_at hl 1 rfl) ?_
  refine g0v (As := [.int (nI k)]) (rest := []) S (c_requireStudent l E a σ k (by omega) (by omega)) (cwV 1 hts gX0_passedBy_X0_requireStudent rfl rfl rfl hdX0_requireStudent ⟨Nat.le_of_ble_eq_true rfl, Nat.le_of_ble_eq_true rfl⟩) hK hP rfl hl.1 rfl (Nat.le_of_ble_eq_true rfl) ⟨Nat.zero_le _, Nat.zero_le _⟩ dX0_passedBy_2 ?_
  refine lv_aload_n hx hb dX0_passedBy_5 rfl (lv_at hl 0 rfl) ?_
  refine g_get (σ := σ) hx hb hts hts0 hown hK hP 16 (by decide) (by decide +kernel) rfl rfl dX0_passedBy_6 ?_
  refine lv_iload_n hx hb dX0_passedBy_9 rfl (lv_at hl 1 rfl) ?_
  refine g_at S gX0_passedBy_X0_at hK hP 12 rfl (by decide) (v := nI (gpc σ k)) (vp_in_nI (by omega) (by decide)) (by rw [nI_clamp (by omega)]) hl.1 (Nat.le_of_ble_eq_true rfl) ⟨Nat.zero_le _, Nat.zero_le _⟩ ⟨Nat.le_of_ble_eq_true rfl, Nat.le_of_ble_eq_true rfl⟩ dX0_passedBy_10 ?_
  exact W.iret hx hb hr (fun t ht hW => ⟨_, rfl, rfl, ht⟩) (fun _ h => nomatch h) dX0_passedBy_13
theorem hinX0_reaches : ∀ w ∈ wsX00, w ∈ wsX0_reaches := fun w h => List.mem_cons_of_mem _ (List.mem_append_left _ (List.mem_append_right _ h))
theorem hdX0_reaches : yX0_reaches.cls = RX0 ∧ yX0_reaches.cls ≠ "java/lang/invoke/MethodHandle" ∧ yX0_reaches.cls ≠ "java/lang/invoke/VarHandle" ∧ (parseMethodDescriptor yX0_reaches.desc).map (fun d => d.parameters.length) = some 2 := by decide +kernel
set_option maxHeartbeats 4000000 in
set_option maxRecDepth 100000 in
theorem c_reaches (l : Launch) (E : GE) (a : Nat → Nat) (σ : GS) (k : Nat) (hn : gn σ ≤ 40) (hk : k < gn σ) (k2 : Nat) (hk2 : k2 < gn σ) : Met l yX0_reaches wsX0_reaches { frames := 1, cells := 0, slots := 0, locals := 21 } (va_Pc [.ref (a 0), .int (nI k), .int (nI k2)] (gB E (gW E a σ))) (vp_Si (fun r => r = b2i (gEx (grb σ k) k2))) 0 0 (fun _ => False) := by
  refine w_met (cc := cX0_reaches) (maxL := 3) (ret := (some .boolean)) (by decide) rfl (Nat.le_of_ble_eq_true rfl) ?_
  intro p e s m below meth c ls S hr hlocks hname hB hl
  obtain ⟨hP, hK⟩ := hB
  obtain ⟨hx, hb, hml, hown, hts⟩ := id S
  have hts0 := hinX0_reaches
  have hl : lv_has ls 3 [(0, .ref (a 0)), (1, .int (nI k)), (2, .int (nI k2))] := hl
  refine lv_aload_n hx hb dX0_reaches_0 rfl (lv_at hl 0 rfl) ?_
  refine lv_iload_n hx hb dX0_reaches_1 rfl (lv_at hl 1 rfl) ?_
  refine g0v (As := [.int (nI k)]) (rest := []) S (c_requirePlace l E a σ k (by omega) (by omega)) (cwV 1 hts gX0_reaches_X0_requirePlace rfl rfl rfl hdX0_requirePlace ⟨Nat.le_of_ble_eq_true rfl, Nat.le_of_ble_eq_true rfl⟩) hK hP rfl hl.1 rfl (Nat.le_of_ble_eq_true rfl) ⟨Nat.zero_le _, Nat.zero_le _⟩ dX0_reaches_2 ?_
  refine lv_aload_n hx hb dX0_reaches_5 rfl (lv_at hl 0 rfl) ?_
  refine lv_iload_n hx hb dX0_reaches_6 rfl (lv_at hl 2 rfl) ?_
  refine g0v (As := [.int (nI k2)]) (rest := []) S (c_requirePlace l E a σ k2 (by omega) (by omega)) (cwV 1 hts gX0_reaches_X0_requirePlace rfl rfl rfl hdX0_requirePlace ⟨Nat.le_of_ble_eq_true rfl, Nat.le_of_ble_eq_true rfl⟩) hK hP rfl hl.1 rfl (Nat.le_of_ble_eq_true rfl) ⟨Nat.zero_le _, Nat.zero_le _⟩ dX0_reaches_7 ?_
  refine lv_aload_n hx hb dX0_reaches_10 rfl (lv_at hl 0 rfl) ?_
  refine g_get (σ := σ) hx hb hts hts0 hown hK hP 14 (by decide) (by decide +kernel) rfl rfl dX0_reaches_11 ?_
  refine lv_iload_n hx hb dX0_reaches_14 rfl (lv_at hl 1 rfl) ?_
  refine g_bitsAt S gX0_reaches_X0_bitsAt hK hP 10 rfl (by decide) (v := grb σ k) (vp_in_nI (by omega) (by decide)) (by rw [nI_clamp (by omega)]) hl.1 (Nat.le_of_ble_eq_true rfl) ⟨Nat.zero_le _, Nat.zero_le _⟩ ⟨Nat.le_of_ble_eq_true rfl, Nat.le_of_ble_eq_true rfl⟩ dX0_reaches_15 ?_
  refine lv_iload_n hx hb dX0_reaches_18 rfl (lv_at hl 2 rfl) ?_
  refine g_bitOf S gX0_reaches_X0_bitOf hK (k := k2) (by omega) hl.1 (Nat.le_of_ble_eq_true rfl) ⟨Nat.zero_le _, Nat.zero_le _⟩ ⟨Nat.le_of_ble_eq_true rfl, Nat.le_of_ble_eq_true rfl⟩ dX0_reaches_19 ?_
  refine lv_land hx hb dX0_reaches_22 ?_
  refine lv_lconst (v := 0) hx hb dX0_reaches_23 (by decide) ?_
  refine W.lcmp hx hb dX0_reaches_24 ?_
  refine lv_if_eq (tgt := 32) hx hb dX0_reaches_25 (by decide) (fun c25 => ?_) (fun c25 => ?_)
  · refine lv_iconst (v := 0) hx hb dX0_reaches_32 (by decide) ?_
    exact W.zret hx hb hr rfl (fun t ht hW => ⟨_, rfl, (by first | (rw [gEx, decide_eq_true ((lg_cmp_eq _ _).mp c25)]; rfl) | (rw [gEx, decide_eq_false (fun h => c25 ((lg_cmp_eq _ _).mpr h))]; rfl)), ht⟩) (fun _ h => nomatch h) dX0_reaches_33
  · refine lv_iconst (v := 1) hx hb dX0_reaches_28 (by decide) ?_
    refine lv_goto (tgt := 33) hx hb dX0_reaches_29 (by decide) ?_
    exact W.zret hx hb hr rfl (fun t ht hW => ⟨_, rfl, (by first | (rw [gEx, decide_eq_true ((lg_cmp_eq _ _).mp c25)]; rfl) | (rw [gEx, decide_eq_false (fun h => c25 ((lg_cmp_eq _ _).mpr h))]; rfl)), ht⟩) (fun _ h => nomatch h) dX0_reaches_33
theorem hinX0_examsFrom : ∀ w ∈ wsX00, w ∈ wsX0_examsFrom := fun w h => List.mem_cons_of_mem _ (List.mem_append_left _ (List.mem_append_right _ h))
theorem hdX0_examsFrom : yX0_examsFrom.cls = RX0 ∧ yX0_examsFrom.cls ≠ "java/lang/invoke/MethodHandle" ∧ yX0_examsFrom.cls ≠ "java/lang/invoke/VarHandle" ∧ (parseMethodDescriptor yX0_examsFrom.desc).map (fun d => d.parameters.length) = some 1 := by decide +kernel
set_option maxHeartbeats 4000000 in
set_option maxRecDepth 100000 in
theorem c_examsFrom (l : Launch) (E : GE) (a : Nat → Nat) (σ : GS) (k : Nat) (hn : gn σ ≤ 40) (hk : k < gn σ) : Met l yX0_examsFrom wsX0_examsFrom { frames := 1, cells := 0, slots := 0, locals := 21 } (va_Pc [.ref (a 0), .int (nI k)] (gB E (gW E a σ))) (vp_Si (fun r => r = gEf σ k)) 0 0 (fun _ => False) := by
  refine w_met (cc := cX0_examsFrom) (maxL := 2) (ret := (some .int)) (by decide) rfl (Nat.le_of_ble_eq_true rfl) ?_
  intro p e s m below meth c ls S hr hlocks hname hB hl
  obtain ⟨hP, hK⟩ := hB
  obtain ⟨hx, hb, hml, hown, hts⟩ := id S
  have hts0 := hinX0_examsFrom
  have hl : lv_has ls 2 [(0, .ref (a 0)), (1, .int (nI k))] := hl
  refine lv_aload_n hx hb dX0_examsFrom_0 rfl (lv_at hl 0 rfl) ?_
  refine lv_iload_n hx hb dX0_examsFrom_1 rfl (lv_at hl 1 rfl) ?_
  refine g0v (As := [.int (nI k)]) (rest := []) S (c_requirePlace l E a σ k (by omega) (by omega)) (cwV 1 hts gX0_examsFrom_X0_requirePlace rfl rfl rfl hdX0_requirePlace ⟨Nat.le_of_ble_eq_true rfl, Nat.le_of_ble_eq_true rfl⟩) hK hP rfl hl.1 rfl (Nat.le_of_ble_eq_true rfl) ⟨Nat.zero_le _, Nat.zero_le _⟩ dX0_examsFrom_2 ?_
  refine lv_aload_n hx hb dX0_examsFrom_5 rfl (lv_at hl 0 rfl) ?_
  refine g_get (σ := σ) hx hb hts hts0 hown hK hP 14 (by decide) (by decide +kernel) rfl rfl dX0_examsFrom_6 ?_
  refine lv_iload_n hx hb dX0_examsFrom_9 rfl (lv_at hl 1 rfl) ?_
  refine g_bitsAt S gX0_examsFrom_X0_bitsAt hK hP 10 rfl (by decide) (v := grb σ k) (vp_in_nI (by omega) (by decide)) (by rw [nI_clamp (by omega)]) hl.1 (Nat.le_of_ble_eq_true rfl) ⟨Nat.zero_le _, Nat.zero_le _⟩ ⟨Nat.le_of_ble_eq_true rfl, Nat.le_of_ble_eq_true rfl⟩ dX0_examsFrom_10 ?_
  refine lv_aload_n hx hb dX0_examsFrom_13 rfl (lv_at hl 0 rfl) ?_
  refine g_get (σ := σ) hx hb hts hts0 hown hK hP 4 (by decide) (by decide +kernel) rfl rfl dX0_examsFrom_14 ?_
  refine lv_land hx hb dX0_examsFrom_17 ?_
  refine g_si (As := [.long ((grb σ k) &&& (ge σ))]) (rest := []) S (c_bitCount l E ((grb σ k) &&& (ge σ))) (va_cwS 1 hts gX0_examsFrom_J13_bitCount_95d88 rfl rfl rfl hdJ13_bitCount_95d88.2 ⟨Nat.le_of_ble_eq_true rfl, Nat.le_of_ble_eq_true rfl⟩) hK (hP.sub [] rfl) rfl hl.1 rfl (Nat.le_of_ble_eq_true rfl) ⟨Nat.zero_le _, Nat.zero_le _⟩ dX0_examsFrom_18 ?_
  exact W.iret hx hb hr (fun t ht hW => ⟨_, rfl, rfl, ht⟩) (fun _ h => nomatch h) dX0_examsFrom_21
theorem hinX0_exams : ∀ w ∈ wsX00, w ∈ wsX0_exams := fun w h => List.mem_cons_of_mem _ (List.mem_append_right _ h)
theorem hdX0_exams : yX0_exams.cls = RX0 ∧ yX0_exams.cls ≠ "java/lang/invoke/MethodHandle" ∧ yX0_exams.cls ≠ "java/lang/invoke/VarHandle" ∧ (parseMethodDescriptor yX0_exams.desc).map (fun d => d.parameters.length) = some 0 := by decide +kernel
set_option maxHeartbeats 4000000 in
set_option maxRecDepth 100000 in
theorem c_exams (l : Launch) (E : GE) (a : Nat → Nat) (σ : GS)  : Met l yX0_exams wsX0_exams { frames := 1, cells := 0, slots := 0, locals := 21 } (va_Pc [.ref (a 0)] (gB E (gW E a σ))) (vp_Si (fun r => r = popc (ge σ))) 0 0 (fun _ => False) := by
  refine w_met (cc := cX0_exams) (maxL := 1) (ret := (some .int)) (by decide) rfl (Nat.le_of_ble_eq_true rfl) ?_
  intro p e s m below meth c ls S hr hlocks hname hB hl
  obtain ⟨hP, hK⟩ := hB
  obtain ⟨hx, hb, hml, hown, hts⟩ := id S
  have hts0 := hinX0_exams
  have hl : lv_has ls 1 [(0, .ref (a 0))] := hl
  refine lv_aload_n hx hb dX0_exams_0 rfl (lv_at hl 0 rfl) ?_
  refine g_get (σ := σ) hx hb hts hts0 hown hK hP 4 (by decide) (by decide +kernel) rfl rfl dX0_exams_1 ?_
  refine g_si (As := [.long (ge σ)]) (rest := []) S (c_bitCount l E (ge σ)) (va_cwS 1 hts gX0_exams_J13_bitCount_95d88 rfl rfl rfl hdJ13_bitCount_95d88.2 ⟨Nat.le_of_ble_eq_true rfl, Nat.le_of_ble_eq_true rfl⟩) hK (hP.sub [] rfl) rfl hl.1 rfl (Nat.le_of_ble_eq_true rfl) ⟨Nat.zero_le _, Nat.zero_le _⟩ dX0_exams_4 ?_
  exact W.iret hx hb hr (fun t ht hW => ⟨_, rfl, rfl, ht⟩) (fun _ h => nomatch h) dX0_exams_7
theorem hinX0_places : ∀ w ∈ wsX00, w ∈ wsX0_places := fun w h => List.mem_cons_of_mem _ (List.mem_append_right _ h)
theorem hdX0_places : yX0_places.cls = RX0 ∧ yX0_places.cls ≠ "java/lang/invoke/MethodHandle" ∧ yX0_places.cls ≠ "java/lang/invoke/VarHandle" ∧ (parseMethodDescriptor yX0_places.desc).map (fun d => d.parameters.length) = some 0 := by decide +kernel
set_option maxHeartbeats 4000000 in
set_option maxRecDepth 100000 in
theorem c_places (l : Launch) (E : GE) (a : Nat → Nat) (σ : GS)  : Met l yX0_places wsX0_places { frames := 0, cells := 0, slots := 0, locals := 0 } (va_Pc [.ref (a 0)] (gB E (gW E a σ))) (vp_Si (fun r => r = nI (gn σ))) 0 0 (fun _ => False) := by
  refine w_met (cc := cX0_places) (maxL := 1) (ret := (some .int)) (by decide) rfl (Nat.le_of_ble_eq_true rfl) ?_
  intro p e s m below meth c ls S hr hlocks hname hB hl
  obtain ⟨hP, hK⟩ := hB
  obtain ⟨hx, hb, hml, hown, hts⟩ := id S
  have hts0 := hinX0_places
  have hl : lv_has ls 1 [(0, .ref (a 0))] := hl
  refine lv_aload_n hx hb dX0_places_0 rfl (lv_at hl 0 rfl) ?_
  refine g_get (σ := σ) hx hb hts hts0 hown hK hP 0 (by decide) (by decide +kernel) rfl rfl dX0_places_1 ?_
  exact W.iret hx hb hr (fun t ht hW => ⟨_, rfl, rfl, ht⟩) (fun _ h => nomatch h) dX0_places_4
theorem hinX0_graded : ∀ w ∈ wsX00, w ∈ wsX0_graded := fun w h => List.mem_cons_of_mem _ (List.mem_append_right _ h)
theorem hdX0_graded : yX0_graded.cls = RX0 ∧ yX0_graded.cls ≠ "java/lang/invoke/MethodHandle" ∧ yX0_graded.cls ≠ "java/lang/invoke/VarHandle" ∧ (parseMethodDescriptor yX0_graded.desc).map (fun d => d.parameters.length) = some 0 := by decide +kernel
set_option maxHeartbeats 4000000 in
set_option maxRecDepth 100000 in
theorem c_graded (l : Launch) (E : GE) (a : Nat → Nat) (σ : GS)  : Met l yX0_graded wsX0_graded { frames := 0, cells := 0, slots := 0, locals := 0 } (va_Pc [.ref (a 0)] (gB E (gW E a σ))) (vp_Si (fun r => r = gc σ)) 0 0 (fun _ => False) := by
  refine w_met (cc := cX0_graded) (maxL := 1) (ret := (some .int)) (by decide) rfl (Nat.le_of_ble_eq_true rfl) ?_
  intro p e s m below meth c ls S hr hlocks hname hB hl
  obtain ⟨hP, hK⟩ := hB
  obtain ⟨hx, hb, hml, hown, hts⟩ := id S
  have hts0 := hinX0_graded
  have hl : lv_has ls 1 [(0, .ref (a 0))] := hl
  refine lv_aload_n hx hb dX0_graded_0 rfl (lv_at hl 0 rfl) ?_
  refine g_get (σ := σ) hx hb hts hts0 hown hK hP 2 (by decide) (by decide +kernel) rfl rfl dX0_graded_1 ?_
  exact W.iret hx hb hr (fun t ht hW => ⟨_, rfl, rfl, ht⟩) (fun _ h => nomatch h) dX0_graded_4
theorem hinX0_students : ∀ w ∈ wsX00, w ∈ wsX0_students := fun w h => List.mem_cons_of_mem _ (List.mem_append_right _ h)
theorem hdX0_students : yX0_students.cls = RX0 ∧ yX0_students.cls ≠ "java/lang/invoke/MethodHandle" ∧ yX0_students.cls ≠ "java/lang/invoke/VarHandle" ∧ (parseMethodDescriptor yX0_students.desc).map (fun d => d.parameters.length) = some 0 := by decide +kernel
set_option maxHeartbeats 4000000 in
set_option maxRecDepth 100000 in
theorem c_students (l : Launch) (E : GE) (a : Nat → Nat) (σ : GS)  : Met l yX0_students wsX0_students { frames := 0, cells := 0, slots := 0, locals := 0 } (va_Pc [.ref (a 0)] (gB E (gW E a σ))) (vp_Si (fun r => r = nI (gk σ))) 0 0 (fun _ => False) := by
  refine w_met (cc := cX0_students) (maxL := 1) (ret := (some .int)) (by decide) rfl (Nat.le_of_ble_eq_true rfl) ?_
  intro p e s m below meth c ls S hr hlocks hname hB hl
  obtain ⟨hP, hK⟩ := hB
  obtain ⟨hx, hb, hml, hown, hts⟩ := id S
  have hts0 := hinX0_students
  have hl : lv_has ls 1 [(0, .ref (a 0))] := hl
  refine lv_aload_n hx hb dX0_students_0 rfl (lv_at hl 0 rfl) ?_
  refine g_get (σ := σ) hx hb hts hts0 hown hK hP 1 (by decide) (by decide +kernel) rfl rfl dX0_students_1 ?_
  exact W.iret hx hb hr (fun t ht hW => ⟨_, rfl, rfl, ht⟩) (fun _ h => nomatch h) dX0_students_4
theorem hinX0_risk : ∀ w ∈ wsX00, w ∈ wsX0_risk := fun w h => List.mem_cons_of_mem _ (List.mem_append_left _ (List.mem_append_right _ h))
theorem hdX0_risk : yX0_risk.cls = RX0 ∧ yX0_risk.cls ≠ "java/lang/invoke/MethodHandle" ∧ yX0_risk.cls ≠ "java/lang/invoke/VarHandle" ∧ (parseMethodDescriptor yX0_risk.desc).map (fun d => d.parameters.length) = some 2 := by decide +kernel
set_option maxHeartbeats 4000000 in
set_option maxRecDepth 100000 in
theorem c_risk (l : Launch) (E : GE) (a : Nat → Nat) (σ : GS) (hO : GOK σ) (k : Nat) (hk : k < gn σ) (hE : gEx (ge σ) k = false) (b : Bool) : Met l yX0_risk wsX0_risk { frames := 3, cells := 0, slots := 0, locals := 67 } (va_Pc [.ref (a 0), .int (nI k), .int (b2i b)] (gB E (gW E a σ))) (vp_Si (fun r => r = gRisk σ k b)) 0 0 (fun _ => False) := by
  refine w_met (cc := cX0_risk) (maxL := 3) (ret := (some .int)) (by decide) rfl (Nat.le_of_ble_eq_true rfl) ?_
  intro p e s m below meth c ls S hr hlocks hname hB hl
  obtain ⟨hP, hK⟩ := hB
  obtain ⟨hx, hb, hml, hown, hts⟩ := id S
  have tn := hO.1
  have hts0 := hinX0_risk
  have hl : lv_has ls 3 [(0, .ref (a 0)), (1, .int (nI k)), (2, .int (b2i b))] := hl
  refine lv_aload_n hx hb dX0_risk_0 rfl (lv_at hl 0 rfl) ?_
  refine lv_iload_n hx hb dX0_risk_1 rfl (lv_at hl 1 rfl) ?_
  refine g0v (As := [.int (nI k)]) (rest := []) S (c_requireFork l E a σ k (by omega) (by omega) hE) (cwV 1 hts gX0_risk_X0_requireFork rfl rfl rfl hdX0_requireFork ⟨Nat.le_of_ble_eq_true rfl, Nat.le_of_ble_eq_true rfl⟩) hK hP rfl hl.1 rfl (Nat.le_of_ble_eq_true rfl) ⟨Nat.zero_le _, Nat.zero_le _⟩ dX0_risk_2 ?_
  refine lv_aload_n hx hb dX0_risk_5 rfl (lv_at hl 0 rfl) ?_
  refine lv_iload_n hx hb dX0_risk_6 rfl (lv_at hl 1 rfl) ?_
  refine lv_iload_n hx hb dX0_risk_7 rfl (lv_at hl 2 rfl) ?_
  refine g0i (As := [.int (nI k), .int (b2i b)]) (rest := []) S (c_riskOfPath l E a σ hO k (by omega) b) (cwV 2 hts gX0_risk_X0_riskOfPath rfl rfl rfl hdX0_riskOfPath ⟨Nat.le_of_ble_eq_true rfl, Nat.le_of_ble_eq_true rfl⟩) hK hP rfl hl.1 rfl (Nat.le_of_ble_eq_true rfl) ⟨Nat.zero_le _, Nat.zero_le _⟩ dX0_risk_8 ?_
  exact W.iret hx hb hr (fun t ht hW => ⟨_, rfl, rfl, ht⟩) (fun _ h => nomatch h) dX0_risk_11
theorem hinX0_planTurnsRight : ∀ w ∈ wsX00, w ∈ wsX0_planTurnsRight := fun w h => List.mem_cons_of_mem _ (List.mem_append_left _ (List.mem_append_right _ h))
theorem hdX0_planTurnsRight : yX0_planTurnsRight.cls = RX0 ∧ yX0_planTurnsRight.cls ≠ "java/lang/invoke/MethodHandle" ∧ yX0_planTurnsRight.cls ≠ "java/lang/invoke/VarHandle" ∧ (parseMethodDescriptor yX0_planTurnsRight.desc).map (fun d => d.parameters.length) = some 1 := by decide +kernel
set_option maxHeartbeats 4000000 in
set_option maxRecDepth 100000 in
theorem c_planTurnsRight (l : Launch) (E : GE) (a : Nat → Nat) (σ : GS) (hO : GOK σ) (k : Nat) (hk : k < gn σ) (hE : gEx (ge σ) k = false) : Met l yX0_planTurnsRight wsX0_planTurnsRight { frames := 4, cells := 0, slots := 0, locals := 88 } (va_Pc [.ref (a 0), .int (nI k)] (gB E (gW E a σ))) (vp_Si (fun r => r = b2i (gPl σ k))) 0 0 (fun _ => False) := by
  refine w_met (cc := cX0_planTurnsRight) (maxL := 2) (ret := (some .boolean)) (by decide) rfl (Nat.le_of_ble_eq_true rfl) ?_
  intro p e s m below meth c ls S hr hlocks hname hB hl
  obtain ⟨hP, hK⟩ := hB
  obtain ⟨hx, hb, hml, hown, hts⟩ := id S
  have tn := hO.1
  have hts0 := hinX0_planTurnsRight
  have hl : lv_has ls 2 [(0, .ref (a 0)), (1, .int (nI k))] := hl
  refine lv_aload_n hx hb dX0_planTurnsRight_0 rfl (lv_at hl 0 rfl) ?_
  refine lv_iload_n hx hb dX0_planTurnsRight_1 rfl (lv_at hl 1 rfl) ?_
  refine g0v (As := [.int (nI k)]) (rest := []) S (c_requireFork l E a σ k (by omega) (by omega) hE) (cwV 1 hts gX0_planTurnsRight_X0_requireFork rfl rfl rfl hdX0_requireFork ⟨Nat.le_of_ble_eq_true rfl, Nat.le_of_ble_eq_true rfl⟩) hK hP rfl hl.1 rfl (Nat.le_of_ble_eq_true rfl) ⟨Nat.zero_le _, Nat.zero_le _⟩ dX0_planTurnsRight_2 ?_
  refine lv_aload_n hx hb dX0_planTurnsRight_5 rfl (lv_at hl 0 rfl) ?_
  refine lv_iload_n hx hb dX0_planTurnsRight_6 rfl (lv_at hl 1 rfl) ?_
  refine g0i (As := [.int (nI k)]) (rest := []) S (c_plansRight l E a σ hO k (by omega)) (cwV 1 hts gX0_planTurnsRight_X0_plansRight rfl rfl rfl hdX0_plansRight ⟨Nat.le_of_ble_eq_true rfl, Nat.le_of_ble_eq_true rfl⟩) hK hP rfl hl.1 rfl (Nat.le_of_ble_eq_true rfl) ⟨Nat.zero_le _, Nat.zero_le _⟩ dX0_planTurnsRight_7 ?_
  exact W.zret hx hb hr (b2i_nar _) (fun t ht hW => ⟨_, rfl, rfl, ht⟩) (fun _ h => nomatch h) dX0_planTurnsRight_10
theorem hinX0_regretOf : ∀ w ∈ wsX00, w ∈ wsX0_regretOf := fun w h => List.mem_cons_of_mem _ (List.mem_append_left _ (List.mem_append_left _ (List.mem_append_right _ h)))
theorem hdX0_regretOf : yX0_regretOf.cls = RX0 ∧ yX0_regretOf.cls ≠ "java/lang/invoke/MethodHandle" ∧ yX0_regretOf.cls ≠ "java/lang/invoke/VarHandle" ∧ (parseMethodDescriptor yX0_regretOf.desc).map (fun d => d.parameters.length) = some 1 := by decide +kernel
set_option maxHeartbeats 4000000 in
set_option maxRecDepth 100000 in
theorem c_regretOf (l : Launch) (E : GE) (a : Nat → Nat) (σ : GS) (hO : GOK σ) (k : Nat) (hk : k < gk σ) (hG : gHas σ (gst σ k) = true) : Met l yX0_regretOf wsX0_regretOf { frames := 4, cells := 0, slots := 0, locals := 91 } (va_Pc [.ref (a 0), .int (nI k)] (gB E (gW E a σ))) (vp_Si (fun r => r = gRegs σ k)) 0 0 (fun _ => False) := by
  refine w_met (cc := cX0_regretOf) (maxL := 2) (ret := (some .int)) (by decide) rfl (Nat.le_of_ble_eq_true rfl) ?_
  intro p e s m below meth c ls S hr hlocks hname hB hl
  obtain ⟨hP, hK⟩ := hB
  obtain ⟨hx, hb, hml, hown, hts⟩ := id S
  have tk := hO.2.1
  have hts0 := hinX0_regretOf
  have hl : lv_has ls 2 [(0, .ref (a 0)), (1, .int (nI k))] := hl
  refine lv_aload_n hx hb dX0_regretOf_0 rfl (lv_at hl 0 rfl) ?_
  refine lv_iload_n hx hb dX0_regretOf_1 rfl (lv_at hl 1 rfl) ?_
  refine g0v (As := [.int (nI k)]) (rest := []) S (c_requireStudent l E a σ k (by omega) (by omega)) (cwV 1 hts gX0_regretOf_X0_requireStudent rfl rfl rfl hdX0_requireStudent ⟨Nat.le_of_ble_eq_true rfl, Nat.le_of_ble_eq_true rfl⟩) hK hP rfl hl.1 rfl (Nat.le_of_ble_eq_true rfl) ⟨Nat.zero_le _, Nat.zero_le _⟩ dX0_regretOf_2 ?_
  refine lv_aload_n hx hb dX0_regretOf_5 rfl (lv_at hl 0 rfl) ?_
  refine lv_iload_n hx hb dX0_regretOf_6 rfl (lv_at hl 1 rfl) ?_
  refine g0v (As := [.int (nI k)]) (rest := []) S (c_requireGraded l E a σ hO k (by omega) hG) (cwV 1 hts gX0_regretOf_X0_requireGraded rfl rfl rfl hdX0_requireGraded ⟨Nat.le_of_ble_eq_true rfl, Nat.le_of_ble_eq_true rfl⟩) hK hP rfl hl.1 rfl (Nat.le_of_ble_eq_true rfl) ⟨Nat.zero_le _, Nat.zero_le _⟩ dX0_regretOf_7 ?_
  refine lv_aload_n hx hb dX0_regretOf_10 rfl (lv_at hl 0 rfl) ?_
  refine lv_iload_n hx hb dX0_regretOf_11 rfl (lv_at hl 1 rfl) ?_
  refine g0i (As := [.int (nI k)]) (rest := []) S (c_regretOfAll l E a σ hO k (by omega)) (cwV 1 hts gX0_regretOf_X0_regretOfAll rfl rfl rfl hdX0_regretOfAll ⟨Nat.le_of_ble_eq_true rfl, Nat.le_of_ble_eq_true rfl⟩) hK hP rfl hl.1 rfl (Nat.le_of_ble_eq_true rfl) ⟨Nat.zero_le _, Nat.zero_le _⟩ dX0_regretOf_12 ?_
  exact W.iret hx hb hr (fun t ht hW => ⟨_, rfl, rfl, ht⟩) (fun _ h => nomatch h) dX0_regretOf_15
theorem hinX0_worstFork : ∀ w ∈ wsX00, w ∈ wsX0_worstFork := fun w h => List.mem_cons_of_mem _ (List.mem_append_left _ (List.mem_append_left _ (List.mem_append_right _ h)))
theorem hdX0_worstFork : yX0_worstFork.cls = RX0 ∧ yX0_worstFork.cls ≠ "java/lang/invoke/MethodHandle" ∧ yX0_worstFork.cls ≠ "java/lang/invoke/VarHandle" ∧ (parseMethodDescriptor yX0_worstFork.desc).map (fun d => d.parameters.length) = some 1 := by decide +kernel
set_option maxHeartbeats 4000000 in
set_option maxRecDepth 100000 in
theorem c_worstFork (l : Launch) (E : GE) (a : Nat → Nat) (σ : GS) (hO : GOK σ) (k : Nat) (hk : k < gk σ) (hG : gHas σ (gst σ k) = true) : Met l yX0_worstFork wsX0_worstFork { frames := 3, cells := 0, slots := 0, locals := 67 } (va_Pc [.ref (a 0), .int (nI k)] (gB E (gW E a σ))) (vp_Si (fun r => r = (gWf σ k).1)) 0 0 (fun _ => False) := by
  refine w_met (cc := cX0_worstFork) (maxL := 7) (ret := (some .int)) (by decide) rfl (Nat.le_of_ble_eq_true rfl) ?_
  intro p e s m below meth c ls S hr hlocks hname hB hl
  obtain ⟨hP, hK⟩ := hB
  obtain ⟨hx, hb, hml, hown, hts⟩ := id S
  have tk := hO.2.1
  have t1 := hO.2.2.2.2.2.2.1 k
  have hts0 := hinX0_worstFork
  have hl : lv_has ls 7 [(0, .ref (a 0)), (1, .int (nI k))] := hl
  refine lv_aload_n hx hb dX0_worstFork_0 rfl (lv_at hl 0 rfl) ?_
  refine lv_iload_n hx hb dX0_worstFork_1 rfl (lv_at hl 1 rfl) ?_
  refine g0v (As := [.int (nI k)]) (rest := []) S (c_requireStudent l E a σ k (by omega) (by omega)) (cwV 1 hts gX0_worstFork_X0_requireStudent rfl rfl rfl hdX0_requireStudent ⟨Nat.le_of_ble_eq_true rfl, Nat.le_of_ble_eq_true rfl⟩) hK hP rfl hl.1 rfl (Nat.le_of_ble_eq_true rfl) ⟨Nat.zero_le _, Nat.zero_le _⟩ dX0_worstFork_2 ?_
  refine lv_aload_n hx hb dX0_worstFork_5 rfl (lv_at hl 0 rfl) ?_
  refine lv_iload_n hx hb dX0_worstFork_6 rfl (lv_at hl 1 rfl) ?_
  refine g0v (As := [.int (nI k)]) (rest := []) S (c_requireGraded l E a σ hO k (by omega) hG) (cwV 1 hts gX0_worstFork_X0_requireGraded rfl rfl rfl hdX0_requireGraded ⟨Nat.le_of_ble_eq_true rfl, Nat.le_of_ble_eq_true rfl⟩) hK hP rfl hl.1 rfl (Nat.le_of_ble_eq_true rfl) ⟨Nat.zero_le _, Nat.zero_le _⟩ dX0_worstFork_7 ?_
  refine lv_iconst (v := -1) hx hb dX0_worstFork_10 (by decide) ?_
  refine lv_istore_n (lv' := [(2, .int ((-1))), (0, .ref (a 0)), (1, .int (nI k))]) hx hb dX0_worstFork_11 rfl hl (by decide) rfl (fun ls hl => ?_)
  refine lv_iconst (v := 0) hx hb dX0_worstFork_12 (by decide) ?_
  refine lv_istore_n (lv' := [(3, .int 0), (2, .int ((-1))), (0, .ref (a 0)), (1, .int (nI k))]) hx hb dX0_worstFork_13 rfl hl (by decide) rfl (fun ls hl => ?_)
  refine lv_aload_n hx hb dX0_worstFork_14 rfl (lv_at hl 2 rfl) ?_
  refine g_get (σ := σ) hx hb hts hts0 hown hK hP 16 (by decide) (by decide +kernel) rfl rfl dX0_worstFork_15 ?_
  refine lv_iload_n hx hb dX0_worstFork_18 rfl (lv_at hl 3 rfl) ?_
  refine g_at S gX0_worstFork_X0_at hK hP 12 rfl (by decide) (v := nI (gpc σ k)) (vp_in_nI (by omega) (by decide)) (by rw [nI_clamp (by omega)]) hl.1 (Nat.le_of_ble_eq_true rfl) ⟨Nat.zero_le _, Nat.zero_le _⟩ ⟨Nat.le_of_ble_eq_true rfl, Nat.le_of_ble_eq_true rfl⟩ dX0_worstFork_19 ?_
  refine lv_istore (lv' := [(4, .int (nI (gpc σ k))), (3, .int 0), (2, .int ((-1))), (0, .ref (a 0)), (1, .int (nI k))]) hx hb dX0_worstFork_22 hl (by decide) rfl (fun ls hl => ?_)
  refine lv_iconst (v := 0) hx hb dX0_worstFork_24 (by decide) ?_
  refine lv_istore (lv' := [(5, .int 0), (4, .int (nI (gpc σ k))), (3, .int 0), (2, .int ((-1))), (0, .ref (a 0)), (1, .int (nI k))]) hx hb dX0_worstFork_25 hl (by decide) rfl (fun ls hl => ?_)
  have key : ∀ (d i : Nat) (x : Int32) (y : Int32) (ls : Array Slot), i + d = gpc σ k → (x, y) = amx (fun j => nI (gpf σ (k * 40 + j))) (gReg σ k) (-1, 0) i → lv_has ls 7 [(5, .int (nI i)), (4, .int (nI (gpc σ k))), (3, .int y), (2, .int x), (0, .ref (a 0)), (1, .int (nI k))] → W p l e (headSpec wsX0_worstFork { frames := 3, cells := 0, slots := 0, locals := 67 }).room s m [.ref (a 0), .int (nI k)].toArray below meth c s.heap [] 0 0 (MQ below (vp_Si (fun r => r = (gWf σ k).1)) [.ref (a 0), .int (nI k)].toArray s 0 0 (fun _ => False)) (F0 m 27 ls []) := by
    intro d
    induction d with
    | zero =>
      intro i x y ls hi hinv hl
      obtain rfl : i = gpc σ k := by omega
      refine lv_iload hx hb dX0_worstFork_27 (lv_at hl 0 rfl) ?_
      refine lv_iload hx hb dX0_worstFork_29 (lv_at hl 1 rfl) ?_
      refine lv_icmp_ge (tgt := 66) hx hb dX0_worstFork_31 (by decide) (fun _ => ?_) (fun q => absurd ((nI_le (Nat.le_refl _) (by omega))) q)
      refine lv_iload_n hx hb dX0_worstFork_66 rfl (lv_at hl 3 rfl) ?_
      exact W.iret hx hb hr (fun t ht hW => ⟨_, rfl, (congrArg Prod.fst hinv), ht⟩) (fun _ h => nomatch h) dX0_worstFork_67
    | succ d ih =>
      intro i x y ls hi hinv hl
      refine lv_iload hx hb dX0_worstFork_27 (lv_at hl 0 rfl) ?_
      refine lv_iload hx hb dX0_worstFork_29 (lv_at hl 1 rfl) ?_
      refine lv_icmp_ge (tgt := 66) hx hb dX0_worstFork_31 (by decide) (fun q => absurd q ((nI_ge (by omega) (by omega)))) (fun _ => ?_)
      refine lv_aload_n hx hb dX0_worstFork_34 rfl (lv_at hl 4 rfl) ?_
      refine lv_iload_n hx hb dX0_worstFork_35 rfl (lv_at hl 5 rfl) ?_
      refine lv_iload hx hb dX0_worstFork_36 (lv_at hl 0 rfl) ?_
      refine g0i (As := [.int (nI k), .int (nI i)]) (rest := []) S (c_regretOfStep l E a σ hO k i (by omega) (by omega)) (cwV 2 hts gX0_worstFork_X0_regretOfStep rfl rfl rfl hdX0_regretOfStep ⟨Nat.le_of_ble_eq_true rfl, Nat.le_of_ble_eq_true rfl⟩) hK hP rfl hl.1 rfl (Nat.le_of_ble_eq_true rfl) ⟨Nat.zero_le _, Nat.zero_le _⟩ dX0_worstFork_38 ?_
      refine lv_istore (lv' := [(6, .int (gReg σ k i)), (5, .int (nI i)), (4, .int (nI (gpc σ k))), (3, .int y), (2, .int x), (0, .ref (a 0)), (1, .int (nI k))]) hx hb dX0_worstFork_41 hl (by decide) rfl (fun ls hl => ?_)
      refine lv_iload hx hb dX0_worstFork_43 (lv_at hl 0 rfl) ?_
      refine lv_iload_n hx hb dX0_worstFork_45 rfl (lv_at hl 3 rfl) ?_
      refine lv_icmp_le (tgt := 60) hx hb dX0_worstFork_46 (by decide) (fun c46 => ?_) (fun c46 => ?_)
      · refine lv_iinc (v := nI (i + 1)) (lv' := [(5, .int (nI (i + 1))), (6, .int (gReg σ k i)), (4, .int (nI (gpc σ k))), (3, .int y), (2, .int x), (0, .ref (a 0)), (1, .int (nI k))]) hx hb dX0_worstFork_60 hl (k := 1) rfl (nI_1 i) (by decide) rfl (fun ls hl => ?_)
        refine lv_goto (tgt := 27) hx hb dX0_worstFork_63 (by decide) ?_
        exact ih (i + 1) x y ls (by omega) (by first | (rw [amx, ← hinv]; exact (if_neg (fun h => Int32.not_le.mpr h c46)).symm) | (rw [amx, ← hinv]; exact (if_pos (Int32.not_le.mp c46)).symm)) (lv_sub hl [0, 2, 3, 4, 5, 6] rfl)
      · refine lv_aload_n hx hb dX0_worstFork_49 rfl (lv_at hl 5 rfl) ?_
        refine lv_iload_n hx hb dX0_worstFork_50 rfl (lv_at hl 6 rfl) ?_
        refine lv_iload hx hb dX0_worstFork_51 (lv_at hl 1 rfl) ?_
        refine g0i (As := [.int (nI k), .int (nI i)]) (rest := []) S (c_passedFork l E a σ k i (by omega) (by omega)) (cwV 2 hts gX0_worstFork_X0_passedFork rfl rfl rfl hdX0_passedFork ⟨Nat.le_of_ble_eq_true rfl, Nat.le_of_ble_eq_true rfl⟩) hK hP rfl hl.1 rfl (Nat.le_of_ble_eq_true rfl) ⟨Nat.zero_le _, Nat.zero_le _⟩ dX0_worstFork_53 ?_
        refine lv_istore_n (lv' := [(2, .int (nI (gpf σ (k * 40 + i)))), (6, .int (gReg σ k i)), (5, .int (nI i)), (4, .int (nI (gpc σ k))), (3, .int y), (0, .ref (a 0)), (1, .int (nI k))]) hx hb dX0_worstFork_56 rfl hl (by decide) rfl (fun ls hl => ?_)
        refine lv_iload hx hb dX0_worstFork_57 (lv_at hl 1 rfl) ?_
        refine lv_istore_n (lv' := [(3, .int (gReg σ k i)), (2, .int (nI (gpf σ (k * 40 + i)))), (6, .int (gReg σ k i)), (5, .int (nI i)), (4, .int (nI (gpc σ k))), (0, .ref (a 0)), (1, .int (nI k))]) hx hb dX0_worstFork_59 rfl hl (by decide) rfl (fun ls hl => ?_)
        refine lv_iinc (v := nI (i + 1)) (lv' := [(5, .int (nI (i + 1))), (3, .int (gReg σ k i)), (2, .int (nI (gpf σ (k * 40 + i)))), (6, .int (gReg σ k i)), (4, .int (nI (gpc σ k))), (0, .ref (a 0)), (1, .int (nI k))]) hx hb dX0_worstFork_60 hl (k := 3) rfl (nI_1 i) (by decide) rfl (fun ls hl => ?_)
        refine lv_goto (tgt := 27) hx hb dX0_worstFork_63 (by decide) ?_
        exact ih (i + 1) (nI (gpf σ (k * 40 + i))) (gReg σ k i) ls (by omega) (by first | (rw [amx, ← hinv]; exact (if_neg (fun h => Int32.not_le.mpr h c46)).symm) | (rw [amx, ← hinv]; exact (if_pos (Int32.not_le.mp c46)).symm)) (lv_sub hl [0, 4, 1, 2, 5, 6] rfl)
  exact key (gpc σ k) 0 ((-1)) 0 ls (by omega) rfl (lv_sub hl [0, 1, 2, 3, 4, 5] rfl)
theorem hinX0_planLeadsTo : ∀ w ∈ wsX00, w ∈ wsX0_planLeadsTo := fun w h => List.mem_cons_of_mem _ (List.mem_append_left _ (List.mem_append_right _ h))
theorem hdX0_planLeadsTo : yX0_planLeadsTo.cls = RX0 ∧ yX0_planLeadsTo.cls ≠ "java/lang/invoke/MethodHandle" ∧ yX0_planLeadsTo.cls ≠ "java/lang/invoke/VarHandle" ∧ (parseMethodDescriptor yX0_planLeadsTo.desc).map (fun d => d.parameters.length) = some 1 := by decide +kernel
set_option maxHeartbeats 4000000 in
set_option maxRecDepth 100000 in
theorem c_planLeadsTo (l : Launch) (E : GE) (a : Nat → Nat) (σ : GS) (hO : GOK σ) (k : Nat) (hk : k < gn σ) : Met l yX0_planLeadsTo wsX0_planLeadsTo { frames := 4, cells := 0, slots := 0, locals := 88 } (va_Pc [.ref (a 0), .int (nI k)] (gB E (gW E a σ))) (vp_Si (fun r => r = nI (gLd σ 40 k))) 0 0 (fun _ => False) := by
  refine w_met (cc := cX0_planLeadsTo) (maxL := 4) (ret := (some .int)) (by decide) rfl (Nat.le_of_ble_eq_true rfl) ?_
  intro p e s m below meth c ls S hr hlocks hname hB hl
  obtain ⟨hP, hK⟩ := hB
  obtain ⟨hx, hb, hml, hown, hts⟩ := id S
  have tn := hO.1
  have hts0 := hinX0_planLeadsTo
  have hl : lv_has ls 4 [(0, .ref (a 0)), (1, .int (nI k))] := hl
  refine lv_aload_n hx hb dX0_planLeadsTo_0 rfl (lv_at hl 0 rfl) ?_
  refine lv_iload_n hx hb dX0_planLeadsTo_1 rfl (lv_at hl 1 rfl) ?_
  refine g0v (As := [.int (nI k)]) (rest := []) S (c_requirePlace l E a σ k (by omega) (by omega)) (cwV 1 hts gX0_planLeadsTo_X0_requirePlace rfl rfl rfl hdX0_requirePlace ⟨Nat.le_of_ble_eq_true rfl, Nat.le_of_ble_eq_true rfl⟩) hK hP rfl hl.1 rfl (Nat.le_of_ble_eq_true rfl) ⟨Nat.zero_le _, Nat.zero_le _⟩ dX0_planLeadsTo_2 ?_
  refine lv_iload_n hx hb dX0_planLeadsTo_5 rfl (lv_at hl 1 rfl) ?_
  refine lv_istore_n (lv' := [(2, .int (nI k)), (0, .ref (a 0)), (1, .int (nI k))]) hx hb dX0_planLeadsTo_6 rfl hl (by decide) rfl (fun ls hl => ?_)
  refine lv_iconst (v := 0) hx hb dX0_planLeadsTo_7 (by decide) ?_
  refine lv_istore_n (lv' := [(3, .int 0), (2, .int (nI k)), (0, .ref (a 0)), (1, .int (nI k))]) hx hb dX0_planLeadsTo_8 rfl hl (by decide) rfl (fun ls hl => ?_)
  have key : ∀ (d i : Nat) (q : Nat) (ls : Array Slot), i + d = 40 → q < 40 ∧ gLd σ 40 k = gLd σ (40 - i) q → lv_has ls 4 [(3, .int (nI i)), (2, .int (nI q)), (0, .ref (a 0)), (1, .int (nI k))] → W p l e (headSpec wsX0_planLeadsTo { frames := 4, cells := 0, slots := 0, locals := 88 }).room s m [.ref (a 0), .int (nI k)].toArray below meth c s.heap [] 0 0 (MQ below (vp_Si (fun r => r = nI (gLd σ 40 k))) [.ref (a 0), .int (nI k)].toArray s 0 0 (fun _ => False)) (F0 m 9 ls []) := by
    intro d
    induction d with
    | zero =>
      intro i q ls hi hinv hl
      obtain rfl : i = 40 := by omega
      refine lv_iload_n hx hb dX0_planLeadsTo_9 rfl (lv_at hl 0 rfl) ?_
      refine lv_bipush (v := nI 40) hx hb dX0_planLeadsTo_10 (by decide) ?_
      refine lv_icmp_ge (tgt := 40) hx hb dX0_planLeadsTo_12 (by decide) (fun _ => ?_) (fun q => absurd ((nI_le (Nat.le_refl _) (by omega))) q)
      refine lv_iload_n hx hb dX0_planLeadsTo_40 rfl (lv_at hl 1 rfl) ?_
      exact W.iret hx hb hr (fun t ht hW => ⟨_, rfl, (by first | rw [hz] | rw [hinv.2]; rfl), ht⟩) (fun _ h => nomatch h) dX0_planLeadsTo_41
    | succ d ih =>
      intro i q ls hi hinv hl
      have hq := hinv.1
      refine lv_iload_n hx hb dX0_planLeadsTo_9 rfl (lv_at hl 0 rfl) ?_
      refine lv_bipush (v := nI 40) hx hb dX0_planLeadsTo_10 (by decide) ?_
      refine lv_icmp_ge (tgt := 40) hx hb dX0_planLeadsTo_12 (by decide) (fun q => absurd q ((nI_ge (by omega) (by omega)))) (fun _ => ?_)
      refine lv_aload_n hx hb dX0_planLeadsTo_15 rfl (lv_at hl 2 rfl) ?_
      refine lv_iload_n hx hb dX0_planLeadsTo_16 rfl (lv_at hl 1 rfl) ?_
      refine g0i (As := [.int (nI q)]) (rest := []) S (c_holdsExam l E a σ q (by omega)) (cwV 1 hts gX0_planLeadsTo_X0_holdsExam rfl rfl rfl hdX0_holdsExam ⟨Nat.le_of_ble_eq_true rfl, Nat.le_of_ble_eq_true rfl⟩) hK hP rfl hl.1 rfl (Nat.le_of_ble_eq_true rfl) ⟨Nat.zero_le _, Nat.zero_le _⟩ dX0_planLeadsTo_17 ?_
      refine lv_if_ne (tgt := 40) hx hb dX0_planLeadsTo_20 (by decide) (fun c20 => ?_) (fun c20 => ?_)
      · have hz : gLd σ 40 k = q := by rw [hinv.2, show 40 - i = (40 - (i + 1)) + 1 by omega, gLd, if_pos (b2i_ne0.mp c20)]
        refine lv_iload_n hx hb dX0_planLeadsTo_40 rfl (lv_at hl 1 rfl) ?_
        exact W.iret hx hb hr (fun t ht hW => ⟨_, rfl, (by first | rw [hz] | rw [hinv.2]; rfl), ht⟩) (fun _ h => nomatch h) dX0_planLeadsTo_41
      · refine lv_aload_n hx hb dX0_planLeadsTo_23 rfl (lv_at hl 2 rfl) ?_
        refine lv_iload_n hx hb dX0_planLeadsTo_24 rfl (lv_at hl 1 rfl) ?_
        refine lv_aload_n hx hb dX0_planLeadsTo_25 rfl (lv_at hl 2 rfl) ?_
        refine lv_iload_n hx hb dX0_planLeadsTo_26 rfl (lv_at hl 1 rfl) ?_
        refine g0i (As := [.int (nI q)]) (rest := [.int (nI q), .ref (a 0)]) S (c_plansRight l E a σ hO q (by omega)) (cwV 1 hts gX0_planLeadsTo_X0_plansRight rfl rfl rfl hdX0_plansRight ⟨Nat.le_of_ble_eq_true rfl, Nat.le_of_ble_eq_true rfl⟩) hK hP rfl hl.1 rfl (Nat.le_of_ble_eq_true rfl) ⟨Nat.zero_le _, Nat.zero_le _⟩ dX0_planLeadsTo_27 ?_
        refine g0i (As := [.int (nI q), .int (b2i (gPl σ q))]) (rest := []) S (c_pathFrom l E a σ q (by omega) (gPl σ q)) (cwV 2 hts gX0_planLeadsTo_X0_pathFrom rfl rfl rfl hdX0_pathFrom ⟨Nat.le_of_ble_eq_true rfl, Nat.le_of_ble_eq_true rfl⟩) hK hP rfl hl.1 rfl (Nat.le_of_ble_eq_true rfl) ⟨Nat.zero_le _, Nat.zero_le _⟩ dX0_planLeadsTo_30 ?_
        refine lv_istore_n (lv' := [(2, .int (nI (gTo σ q (gPl σ q)))), (3, .int (nI i)), (0, .ref (a 0)), (1, .int (nI k))]) hx hb dX0_planLeadsTo_33 rfl hl (by decide) rfl (fun ls hl => ?_)
        refine lv_iinc (v := nI (i + 1)) (lv' := [(3, .int (nI (i + 1))), (2, .int (nI (gTo σ q (gPl σ q)))), (0, .ref (a 0)), (1, .int (nI k))]) hx hb dX0_planLeadsTo_34 hl (k := 1) rfl (nI_1 i) (by decide) rfl (fun ls hl => ?_)
        refine lv_goto (tgt := 9) hx hb dX0_planLeadsTo_37 (by decide) ?_
        exact ih (i + 1) ((gTo σ q (gPl σ q))) ls (by omega) ⟨gTo_lt hO _ _, by rw [hinv.2, show 40 - i = (40 - (i + 1)) + 1 by omega, gLd, if_neg (by rw [b2i_eq0.mp c20]; decide)]⟩ (lv_sub hl [0, 1, 2, 3] rfl)
  exact key 40 0 k ls (by omega) ⟨by omega, rfl⟩ (lv_sub hl [0, 1, 2, 3] rfl)
theorem hdX0_mix : yX0_mix.cls = RX0 ∧ yX0_mix.cls ≠ "java/lang/invoke/MethodHandle" ∧ yX0_mix.cls ≠ "java/lang/invoke/VarHandle" ∧ (parseMethodDescriptor yX0_mix.desc).map (fun d => d.parameters.length) = some 2 := by decide +kernel
set_option maxHeartbeats 4000000 in
set_option maxRecDepth 100000 in
theorem c_mix (l : Launch) (E : GE) (d : Int64) (x : Int32) : Met l yX0_mix wsX0_mix rmZ (va_Pc [.long d, .int x] (gB E [])) (vp_Sl (fun r => r = hsh d x)) 0 0 (fun _ => False) := by
  refine w_met (cc := cX0_mix) (maxL := 3) (ret := some .long) (by decide) rfl (Nat.le_of_ble_eq_true rfl) ?_
  intro p e s m below meth c ls S hr hlocks hname hB hl
  obtain ⟨hx0, hb, hml, hown, hts⟩ := id S
  have hl : lv_has ls 3 [(0, .long d), (2, .int x)] := hl
  refine lv_lload_n hx0 hb dX0_mix_0 rfl (lv_at hl 0 rfl) ?_
  refine lv_ldc2 (v := 31) hx0 hb hown (hts (.constantLong RX0 246 (31)) (by decide +kernel)) dX0_mix_1 ?_
  refine lv_lmul hx0 hb dX0_mix_4 ?_
  refine lv_iload_n hx0 hb dX0_mix_5 rfl (lv_at hl 1 rfl) ?_
  refine lv_i2l hx0 hb dX0_mix_6 rfl ?_
  refine lv_ladd hx0 hb dX0_mix_7 ?_
  exact W.lret hx0 hb hr (fun t ht hW => ⟨_, rfl, rfl, ht⟩) (fun _ h => nomatch h) dX0_mix_8
theorem hinX0_mixPlace : ∀ w ∈ wsX00, w ∈ wsX0_mixPlace := fun w h => List.mem_cons_of_mem _ (List.mem_append_left _ (List.mem_append_right _ h))
theorem hdX0_mixPlace : yX0_mixPlace.cls = RX0 ∧ yX0_mixPlace.cls ≠ "java/lang/invoke/MethodHandle" ∧ yX0_mixPlace.cls ≠ "java/lang/invoke/VarHandle" ∧ (parseMethodDescriptor yX0_mixPlace.desc).map (fun d => d.parameters.length) = some 2 := by decide +kernel
set_option maxHeartbeats 4000000 in
set_option maxRecDepth 100000 in
theorem c_mixPlace (l : Launch) (E : GE) (a : Nat → Nat) (σ : GS) (hO : GOK σ) (d : Int64) (k : Nat) (hk : k < gn σ) : Met l yX0_mixPlace wsX0_mixPlace { frames := 5, cells := 0, slots := 0, locals := 111 } (va_Pc [.ref (a 0), .long d, .int (nI k)] (gB E (gW E a σ))) (vp_Sl (fun r => r = gPd σ d k)) 0 0 (fun _ => False) := by
  refine w_met (cc := cX0_mixPlace) (maxL := 6) (ret := (some .long)) (by decide) rfl (Nat.le_of_ble_eq_true rfl) ?_
  intro p e s m below meth c ls S hr hlocks hname hB hl
  obtain ⟨hP, hK⟩ := hB
  obtain ⟨hx, hb, hml, hown, hts⟩ := id S
  have tn := hO.1
  have hts0 := hinX0_mixPlace
  rcases hE : gEx (ge σ) k with _ | _
  · have hl : lv_has ls 6 [(0, .ref (a 0)), (1, .long d), (3, .int (nI k))] := hl
    refine lv_lload_n hx hb dX0_mixPlace_0 rfl (lv_at hl 1 rfl) ?_
    refine lv_aload_n hx hb dX0_mixPlace_1 rfl (lv_at hl 0 rfl) ?_
    refine lv_iload_n hx hb dX0_mixPlace_2 rfl (lv_at hl 2 rfl) ?_
    refine g0i (As := [.int (nI k)]) (rest := [.long d]) S (c_isExam l E a σ k (by omega) (by omega)) (cwV 1 hts gX0_mixPlace_X0_isExam rfl rfl rfl hdX0_isExam ⟨Nat.le_of_ble_eq_true rfl, Nat.le_of_ble_eq_true rfl⟩) hK hP rfl hl.1 rfl (Nat.le_of_ble_eq_true rfl) ⟨Nat.zero_le _, Nat.zero_le _⟩ dX0_mixPlace_3 ?_
    refine lv_if_eq (tgt := 13) hx hb dX0_mixPlace_6 (by decide) (fun _ => ?_) (fun q => absurd ((b2i_eq0.mpr hE)) q)
    refine lv_iconst (v := 0) hx hb dX0_mixPlace_13 (by decide) ?_
    refine g_sl (As := [.long d, .int 0]) (rest := []) S (c_mix l E d 0) (va_cwS 2 hts gX0_mixPlace_X0_mix rfl rfl rfl hdX0_mix.2 ⟨Nat.le_of_ble_eq_true rfl, Nat.le_of_ble_eq_true rfl⟩) hK (hP.sub [] rfl) rfl hl.1 rfl (Nat.le_of_ble_eq_true rfl) ⟨Nat.zero_le _, Nat.zero_le _⟩ dX0_mixPlace_14 ?_
    refine lv_lstore (lv' := [(4, .long (hsh d 0)), (0, .ref (a 0)), (1, .long d), (3, .int (nI k))]) hx hb dX0_mixPlace_17 hl (by decide) rfl (fun ls hl => ?_)
    refine lv_lload hx hb dX0_mixPlace_19 (lv_at hl 0 rfl) ?_
    refine lv_aload_n hx hb dX0_mixPlace_21 rfl (lv_at hl 1 rfl) ?_
    refine lv_iload_n hx hb dX0_mixPlace_22 rfl (lv_at hl 3 rfl) ?_
    refine g0i (As := [.int (nI k)]) (rest := [.long (hsh d 0)]) S (c_sureGrade l E a σ k (by omega) (by omega)) (cwV 1 hts gX0_mixPlace_X0_sureGrade rfl rfl rfl hdX0_sureGrade ⟨Nat.le_of_ble_eq_true rfl, Nat.le_of_ble_eq_true rfl⟩) hK hP rfl hl.1 rfl (Nat.le_of_ble_eq_true rfl) ⟨Nat.zero_le _, Nat.zero_le _⟩ dX0_mixPlace_23 ?_
    refine g_sl (As := [.long (hsh d 0), .int (gsu σ k)]) (rest := []) S (c_mix l E (hsh d 0) (gsu σ k)) (va_cwS 2 hts gX0_mixPlace_X0_mix rfl rfl rfl hdX0_mix.2 ⟨Nat.le_of_ble_eq_true rfl, Nat.le_of_ble_eq_true rfl⟩) hK (hP.sub [] rfl) rfl hl.1 rfl (Nat.le_of_ble_eq_true rfl) ⟨Nat.zero_le _, Nat.zero_le _⟩ dX0_mixPlace_26 ?_
    refine lv_lstore (lv' := [(4, .long (hsh (hsh d 0) (gsu σ k))), (0, .ref (a 0)), (1, .long d), (3, .int (nI k))]) hx hb dX0_mixPlace_29 hl (by decide) rfl (fun ls hl => ?_)
    refine lv_lload hx hb dX0_mixPlace_31 (lv_at hl 0 rfl) ?_
    refine lv_aload_n hx hb dX0_mixPlace_33 rfl (lv_at hl 1 rfl) ?_
    refine lv_iload_n hx hb dX0_mixPlace_34 rfl (lv_at hl 3 rfl) ?_
    refine g0i (As := [.int (nI k)]) (rest := [.long (hsh (hsh d 0) (gsu σ k))]) S (c_hope l E a σ k (by omega) (by omega)) (cwV 1 hts gX0_mixPlace_X0_hope rfl rfl rfl hdX0_hope ⟨Nat.le_of_ble_eq_true rfl, Nat.le_of_ble_eq_true rfl⟩) hK hP rfl hl.1 rfl (Nat.le_of_ble_eq_true rfl) ⟨Nat.zero_le _, Nat.zero_le _⟩ dX0_mixPlace_35 ?_
    refine g_sl (As := [.long (hsh (hsh d 0) (gsu σ k)), .int (gho σ k)]) (rest := []) S (c_mix l E (hsh (hsh d 0) (gsu σ k)) (gho σ k)) (va_cwS 2 hts gX0_mixPlace_X0_mix rfl rfl rfl hdX0_mix.2 ⟨Nat.le_of_ble_eq_true rfl, Nat.le_of_ble_eq_true rfl⟩) hK (hP.sub [] rfl) rfl hl.1 rfl (Nat.le_of_ble_eq_true rfl) ⟨Nat.zero_le _, Nat.zero_le _⟩ dX0_mixPlace_38 ?_
    refine lv_lstore (lv' := [(4, .long (hsh (hsh (hsh d 0) (gsu σ k)) (gho σ k))), (0, .ref (a 0)), (1, .long d), (3, .int (nI k))]) hx hb dX0_mixPlace_41 hl (by decide) rfl (fun ls hl => ?_)
    refine lv_lload hx hb dX0_mixPlace_43 (lv_at hl 0 rfl) ?_
    refine lv_aload_n hx hb dX0_mixPlace_45 rfl (lv_at hl 1 rfl) ?_
    refine lv_iload_n hx hb dX0_mixPlace_46 rfl (lv_at hl 3 rfl) ?_
    refine g0i (As := [.int (nI k)]) (rest := [.long (hsh (hsh (hsh d 0) (gsu σ k)) (gho σ k))]) S (c_examsFrom l E a σ k (by omega) (by omega)) (cwV 1 hts gX0_mixPlace_X0_examsFrom rfl rfl rfl hdX0_examsFrom ⟨Nat.le_of_ble_eq_true rfl, Nat.le_of_ble_eq_true rfl⟩) hK hP rfl hl.1 rfl (Nat.le_of_ble_eq_true rfl) ⟨Nat.zero_le _, Nat.zero_le _⟩ dX0_mixPlace_47 ?_
    refine g_sl (As := [.long (hsh (hsh (hsh d 0) (gsu σ k)) (gho σ k)), .int (gEf σ k)]) (rest := []) S (c_mix l E (hsh (hsh (hsh d 0) (gsu σ k)) (gho σ k)) (gEf σ k)) (va_cwS 2 hts gX0_mixPlace_X0_mix rfl rfl rfl hdX0_mix.2 ⟨Nat.le_of_ble_eq_true rfl, Nat.le_of_ble_eq_true rfl⟩) hK (hP.sub [] rfl) rfl hl.1 rfl (Nat.le_of_ble_eq_true rfl) ⟨Nat.zero_le _, Nat.zero_le _⟩ dX0_mixPlace_50 ?_
    refine lv_lstore (lv' := [(4, .long (hsh (hsh (hsh (hsh d 0) (gsu σ k)) (gho σ k)) (gEf σ k))), (0, .ref (a 0)), (1, .long d), (3, .int (nI k))]) hx hb dX0_mixPlace_53 hl (by decide) rfl (fun ls hl => ?_)
    refine lv_lload hx hb dX0_mixPlace_55 (lv_at hl 0 rfl) ?_
    refine lv_aload_n hx hb dX0_mixPlace_57 rfl (lv_at hl 1 rfl) ?_
    refine lv_iload_n hx hb dX0_mixPlace_58 rfl (lv_at hl 3 rfl) ?_
    refine g0i (As := [.int (nI k)]) (rest := [.long (hsh (hsh (hsh (hsh d 0) (gsu σ k)) (gho σ k)) (gEf σ k))]) S (c_planLeadsTo l E a σ hO k (by omega)) (cwV 1 hts gX0_mixPlace_X0_planLeadsTo rfl rfl rfl hdX0_planLeadsTo ⟨Nat.le_of_ble_eq_true rfl, Nat.le_of_ble_eq_true rfl⟩) hK hP rfl hl.1 rfl (Nat.le_of_ble_eq_true rfl) ⟨Nat.zero_le _, Nat.zero_le _⟩ dX0_mixPlace_59 ?_
    refine g_sl (As := [.long (hsh (hsh (hsh (hsh d 0) (gsu σ k)) (gho σ k)) (gEf σ k)), .int (nI (gLd σ 40 k))]) (rest := []) S (c_mix l E (hsh (hsh (hsh (hsh d 0) (gsu σ k)) (gho σ k)) (gEf σ k)) (nI (gLd σ 40 k))) (va_cwS 2 hts gX0_mixPlace_X0_mix rfl rfl rfl hdX0_mix.2 ⟨Nat.le_of_ble_eq_true rfl, Nat.le_of_ble_eq_true rfl⟩) hK (hP.sub [] rfl) rfl hl.1 rfl (Nat.le_of_ble_eq_true rfl) ⟨Nat.zero_le _, Nat.zero_le _⟩ dX0_mixPlace_62 ?_
    refine lv_lstore (lv' := [(4, .long (hsh (hsh (hsh (hsh (hsh d 0) (gsu σ k)) (gho σ k)) (gEf σ k)) (nI (gLd σ 40 k)))), (0, .ref (a 0)), (1, .long d), (3, .int (nI k))]) hx hb dX0_mixPlace_65 hl (by decide) rfl (fun ls hl => ?_)
    refine lv_aload_n hx hb dX0_mixPlace_67 rfl (lv_at hl 1 rfl) ?_
    refine lv_iload_n hx hb dX0_mixPlace_68 rfl (lv_at hl 3 rfl) ?_
    refine g0i (As := [.int (nI k)]) (rest := []) S (c_holdsExam l E a σ k (by omega)) (cwV 1 hts gX0_mixPlace_X0_holdsExam rfl rfl rfl hdX0_holdsExam ⟨Nat.le_of_ble_eq_true rfl, Nat.le_of_ble_eq_true rfl⟩) hK hP rfl hl.1 rfl (Nat.le_of_ble_eq_true rfl) ⟨Nat.zero_le _, Nat.zero_le _⟩ dX0_mixPlace_69 ?_
    refine lv_if_eq (tgt := 86) hx hb dX0_mixPlace_72 (by decide) (fun _ => ?_) (fun q => absurd ((b2i_eq0.mpr hE)) q)
    refine lv_lload hx hb dX0_mixPlace_86 (lv_at hl 0 rfl) ?_
    refine lv_aload_n hx hb dX0_mixPlace_88 rfl (lv_at hl 1 rfl) ?_
    refine lv_iload_n hx hb dX0_mixPlace_89 rfl (lv_at hl 3 rfl) ?_
    refine g0i (As := [.int (nI k)]) (rest := [.long (hsh (hsh (hsh (hsh (hsh d 0) (gsu σ k)) (gho σ k)) (gEf σ k)) (nI (gLd σ 40 k)))]) S (c_leftOf l E a σ k (by omega) (by omega) hE) (cwV 1 hts gX0_mixPlace_X0_leftOf rfl rfl rfl hdX0_leftOf ⟨Nat.le_of_ble_eq_true rfl, Nat.le_of_ble_eq_true rfl⟩) hK hP rfl hl.1 rfl (Nat.le_of_ble_eq_true rfl) ⟨Nat.zero_le _, Nat.zero_le _⟩ dX0_mixPlace_90 ?_
    refine g_sl (As := [.long (hsh (hsh (hsh (hsh (hsh d 0) (gsu σ k)) (gho σ k)) (gEf σ k)) (nI (gLd σ 40 k))), .int (nI (glf σ k))]) (rest := []) S (c_mix l E (hsh (hsh (hsh (hsh (hsh d 0) (gsu σ k)) (gho σ k)) (gEf σ k)) (nI (gLd σ 40 k))) (nI (glf σ k))) (va_cwS 2 hts gX0_mixPlace_X0_mix rfl rfl rfl hdX0_mix.2 ⟨Nat.le_of_ble_eq_true rfl, Nat.le_of_ble_eq_true rfl⟩) hK (hP.sub [] rfl) rfl hl.1 rfl (Nat.le_of_ble_eq_true rfl) ⟨Nat.zero_le _, Nat.zero_le _⟩ dX0_mixPlace_93 ?_
    refine lv_lstore (lv' := [(4, .long (hsh (hsh (hsh (hsh (hsh (hsh d 0) (gsu σ k)) (gho σ k)) (gEf σ k)) (nI (gLd σ 40 k))) (nI (glf σ k)))), (0, .ref (a 0)), (1, .long d), (3, .int (nI k))]) hx hb dX0_mixPlace_96 hl (by decide) rfl (fun ls hl => ?_)
    refine lv_lload hx hb dX0_mixPlace_98 (lv_at hl 0 rfl) ?_
    refine lv_aload_n hx hb dX0_mixPlace_100 rfl (lv_at hl 1 rfl) ?_
    refine lv_iload_n hx hb dX0_mixPlace_101 rfl (lv_at hl 3 rfl) ?_
    refine g0i (As := [.int (nI k)]) (rest := [.long (hsh (hsh (hsh (hsh (hsh (hsh d 0) (gsu σ k)) (gho σ k)) (gEf σ k)) (nI (gLd σ 40 k))) (nI (glf σ k)))]) S (c_rightOf l E a σ k (by omega) (by omega) hE) (cwV 1 hts gX0_mixPlace_X0_rightOf rfl rfl rfl hdX0_rightOf ⟨Nat.le_of_ble_eq_true rfl, Nat.le_of_ble_eq_true rfl⟩) hK hP rfl hl.1 rfl (Nat.le_of_ble_eq_true rfl) ⟨Nat.zero_le _, Nat.zero_le _⟩ dX0_mixPlace_102 ?_
    refine g_sl (As := [.long (hsh (hsh (hsh (hsh (hsh (hsh d 0) (gsu σ k)) (gho σ k)) (gEf σ k)) (nI (gLd σ 40 k))) (nI (glf σ k))), .int (nI (grt σ k))]) (rest := []) S (c_mix l E (hsh (hsh (hsh (hsh (hsh (hsh d 0) (gsu σ k)) (gho σ k)) (gEf σ k)) (nI (gLd σ 40 k))) (nI (glf σ k))) (nI (grt σ k))) (va_cwS 2 hts gX0_mixPlace_X0_mix rfl rfl rfl hdX0_mix.2 ⟨Nat.le_of_ble_eq_true rfl, Nat.le_of_ble_eq_true rfl⟩) hK (hP.sub [] rfl) rfl hl.1 rfl (Nat.le_of_ble_eq_true rfl) ⟨Nat.zero_le _, Nat.zero_le _⟩ dX0_mixPlace_105 ?_
    refine lv_lstore (lv' := [(4, .long (hsh (hsh (hsh (hsh (hsh (hsh (hsh d 0) (gsu σ k)) (gho σ k)) (gEf σ k)) (nI (gLd σ 40 k))) (nI (glf σ k))) (nI (grt σ k)))), (0, .ref (a 0)), (1, .long d), (3, .int (nI k))]) hx hb dX0_mixPlace_108 hl (by decide) rfl (fun ls hl => ?_)
    refine lv_lload hx hb dX0_mixPlace_110 (lv_at hl 0 rfl) ?_
    refine lv_aload_n hx hb dX0_mixPlace_112 rfl (lv_at hl 1 rfl) ?_
    refine lv_iload_n hx hb dX0_mixPlace_113 rfl (lv_at hl 3 rfl) ?_
    refine g0i (As := [.int (nI k)]) (rest := [.long (hsh (hsh (hsh (hsh (hsh (hsh (hsh d 0) (gsu σ k)) (gho σ k)) (gEf σ k)) (nI (gLd σ 40 k))) (nI (glf σ k))) (nI (grt σ k)))]) S (c_weightOf l E a σ k (by omega) (by omega) hE) (cwV 1 hts gX0_mixPlace_X0_weightOf rfl rfl rfl hdX0_weightOf ⟨Nat.le_of_ble_eq_true rfl, Nat.le_of_ble_eq_true rfl⟩) hK hP rfl hl.1 rfl (Nat.le_of_ble_eq_true rfl) ⟨Nat.zero_le _, Nat.zero_le _⟩ dX0_mixPlace_114 ?_
    refine g_sl (As := [.long (hsh (hsh (hsh (hsh (hsh (hsh (hsh d 0) (gsu σ k)) (gho σ k)) (gEf σ k)) (nI (gLd σ 40 k))) (nI (glf σ k))) (nI (grt σ k))), .int (gwt σ k)]) (rest := []) S (c_mix l E (hsh (hsh (hsh (hsh (hsh (hsh (hsh d 0) (gsu σ k)) (gho σ k)) (gEf σ k)) (nI (gLd σ 40 k))) (nI (glf σ k))) (nI (grt σ k))) (gwt σ k)) (va_cwS 2 hts gX0_mixPlace_X0_mix rfl rfl rfl hdX0_mix.2 ⟨Nat.le_of_ble_eq_true rfl, Nat.le_of_ble_eq_true rfl⟩) hK (hP.sub [] rfl) rfl hl.1 rfl (Nat.le_of_ble_eq_true rfl) ⟨Nat.zero_le _, Nat.zero_le _⟩ dX0_mixPlace_117 ?_
    refine lv_lstore (lv' := [(4, .long (hsh (hsh (hsh (hsh (hsh (hsh (hsh (hsh d 0) (gsu σ k)) (gho σ k)) (gEf σ k)) (nI (gLd σ 40 k))) (nI (glf σ k))) (nI (grt σ k))) (gwt σ k))), (0, .ref (a 0)), (1, .long d), (3, .int (nI k))]) hx hb dX0_mixPlace_120 hl (by decide) rfl (fun ls hl => ?_)
    refine lv_lload hx hb dX0_mixPlace_122 (lv_at hl 0 rfl) ?_
    refine lv_aload_n hx hb dX0_mixPlace_124 rfl (lv_at hl 1 rfl) ?_
    refine lv_iload_n hx hb dX0_mixPlace_125 rfl (lv_at hl 3 rfl) ?_
    refine g0i (As := [.int (nI k)]) (rest := [.long (hsh (hsh (hsh (hsh (hsh (hsh (hsh (hsh d 0) (gsu σ k)) (gho σ k)) (gEf σ k)) (nI (gLd σ 40 k))) (nI (glf σ k))) (nI (grt σ k))) (gwt σ k))]) S (c_hindsight l E a σ k (by omega) (by omega) hE) (cwV 1 hts gX0_mixPlace_X0_hindsight rfl rfl rfl hdX0_hindsight ⟨Nat.le_of_ble_eq_true rfl, Nat.le_of_ble_eq_true rfl⟩) hK hP rfl hl.1 rfl (Nat.le_of_ble_eq_true rfl) ⟨Nat.zero_le _, Nat.zero_le _⟩ dX0_mixPlace_126 ?_
    refine g_sl (As := [.long (hsh (hsh (hsh (hsh (hsh (hsh (hsh (hsh d 0) (gsu σ k)) (gho σ k)) (gEf σ k)) (nI (gLd σ 40 k))) (nI (glf σ k))) (nI (grt σ k))) (gwt σ k)), .int (ghs σ k)]) (rest := []) S (c_mix l E (hsh (hsh (hsh (hsh (hsh (hsh (hsh (hsh d 0) (gsu σ k)) (gho σ k)) (gEf σ k)) (nI (gLd σ 40 k))) (nI (glf σ k))) (nI (grt σ k))) (gwt σ k)) (ghs σ k)) (va_cwS 2 hts gX0_mixPlace_X0_mix rfl rfl rfl hdX0_mix.2 ⟨Nat.le_of_ble_eq_true rfl, Nat.le_of_ble_eq_true rfl⟩) hK (hP.sub [] rfl) rfl hl.1 rfl (Nat.le_of_ble_eq_true rfl) ⟨Nat.zero_le _, Nat.zero_le _⟩ dX0_mixPlace_129 ?_
    exact W.lret hx hb hr (fun t ht hW => ⟨_, rfl, (by rw [gPd, gPd0, hE]; rfl), ht⟩) (fun _ h => nomatch h) dX0_mixPlace_132
  · have hl : lv_has ls 6 [(0, .ref (a 0)), (1, .long d), (3, .int (nI k))] := hl
    refine lv_lload_n hx hb dX0_mixPlace_0 rfl (lv_at hl 1 rfl) ?_
    refine lv_aload_n hx hb dX0_mixPlace_1 rfl (lv_at hl 0 rfl) ?_
    refine lv_iload_n hx hb dX0_mixPlace_2 rfl (lv_at hl 2 rfl) ?_
    refine g0i (As := [.int (nI k)]) (rest := [.long d]) S (c_isExam l E a σ k (by omega) (by omega)) (cwV 1 hts gX0_mixPlace_X0_isExam rfl rfl rfl hdX0_isExam ⟨Nat.le_of_ble_eq_true rfl, Nat.le_of_ble_eq_true rfl⟩) hK hP rfl hl.1 rfl (Nat.le_of_ble_eq_true rfl) ⟨Nat.zero_le _, Nat.zero_le _⟩ dX0_mixPlace_3 ?_
    refine lv_if_eq (tgt := 13) hx hb dX0_mixPlace_6 (by decide) (fun q => absurd q ((b2i_ne0.mpr hE))) (fun _ => ?_)
    refine lv_iconst (v := 1) hx hb dX0_mixPlace_9 (by decide) ?_
    refine lv_goto (tgt := 14) hx hb dX0_mixPlace_10 (by decide) ?_
    refine g_sl (As := [.long d, .int 1]) (rest := []) S (c_mix l E d 1) (va_cwS 2 hts gX0_mixPlace_X0_mix rfl rfl rfl hdX0_mix.2 ⟨Nat.le_of_ble_eq_true rfl, Nat.le_of_ble_eq_true rfl⟩) hK (hP.sub [] rfl) rfl hl.1 rfl (Nat.le_of_ble_eq_true rfl) ⟨Nat.zero_le _, Nat.zero_le _⟩ dX0_mixPlace_14 ?_
    refine lv_lstore (lv' := [(4, .long (hsh d 1)), (0, .ref (a 0)), (1, .long d), (3, .int (nI k))]) hx hb dX0_mixPlace_17 hl (by decide) rfl (fun ls hl => ?_)
    refine lv_lload hx hb dX0_mixPlace_19 (lv_at hl 0 rfl) ?_
    refine lv_aload_n hx hb dX0_mixPlace_21 rfl (lv_at hl 1 rfl) ?_
    refine lv_iload_n hx hb dX0_mixPlace_22 rfl (lv_at hl 3 rfl) ?_
    refine g0i (As := [.int (nI k)]) (rest := [.long (hsh d 1)]) S (c_sureGrade l E a σ k (by omega) (by omega)) (cwV 1 hts gX0_mixPlace_X0_sureGrade rfl rfl rfl hdX0_sureGrade ⟨Nat.le_of_ble_eq_true rfl, Nat.le_of_ble_eq_true rfl⟩) hK hP rfl hl.1 rfl (Nat.le_of_ble_eq_true rfl) ⟨Nat.zero_le _, Nat.zero_le _⟩ dX0_mixPlace_23 ?_
    refine g_sl (As := [.long (hsh d 1), .int (gsu σ k)]) (rest := []) S (c_mix l E (hsh d 1) (gsu σ k)) (va_cwS 2 hts gX0_mixPlace_X0_mix rfl rfl rfl hdX0_mix.2 ⟨Nat.le_of_ble_eq_true rfl, Nat.le_of_ble_eq_true rfl⟩) hK (hP.sub [] rfl) rfl hl.1 rfl (Nat.le_of_ble_eq_true rfl) ⟨Nat.zero_le _, Nat.zero_le _⟩ dX0_mixPlace_26 ?_
    refine lv_lstore (lv' := [(4, .long (hsh (hsh d 1) (gsu σ k))), (0, .ref (a 0)), (1, .long d), (3, .int (nI k))]) hx hb dX0_mixPlace_29 hl (by decide) rfl (fun ls hl => ?_)
    refine lv_lload hx hb dX0_mixPlace_31 (lv_at hl 0 rfl) ?_
    refine lv_aload_n hx hb dX0_mixPlace_33 rfl (lv_at hl 1 rfl) ?_
    refine lv_iload_n hx hb dX0_mixPlace_34 rfl (lv_at hl 3 rfl) ?_
    refine g0i (As := [.int (nI k)]) (rest := [.long (hsh (hsh d 1) (gsu σ k))]) S (c_hope l E a σ k (by omega) (by omega)) (cwV 1 hts gX0_mixPlace_X0_hope rfl rfl rfl hdX0_hope ⟨Nat.le_of_ble_eq_true rfl, Nat.le_of_ble_eq_true rfl⟩) hK hP rfl hl.1 rfl (Nat.le_of_ble_eq_true rfl) ⟨Nat.zero_le _, Nat.zero_le _⟩ dX0_mixPlace_35 ?_
    refine g_sl (As := [.long (hsh (hsh d 1) (gsu σ k)), .int (gho σ k)]) (rest := []) S (c_mix l E (hsh (hsh d 1) (gsu σ k)) (gho σ k)) (va_cwS 2 hts gX0_mixPlace_X0_mix rfl rfl rfl hdX0_mix.2 ⟨Nat.le_of_ble_eq_true rfl, Nat.le_of_ble_eq_true rfl⟩) hK (hP.sub [] rfl) rfl hl.1 rfl (Nat.le_of_ble_eq_true rfl) ⟨Nat.zero_le _, Nat.zero_le _⟩ dX0_mixPlace_38 ?_
    refine lv_lstore (lv' := [(4, .long (hsh (hsh (hsh d 1) (gsu σ k)) (gho σ k))), (0, .ref (a 0)), (1, .long d), (3, .int (nI k))]) hx hb dX0_mixPlace_41 hl (by decide) rfl (fun ls hl => ?_)
    refine lv_lload hx hb dX0_mixPlace_43 (lv_at hl 0 rfl) ?_
    refine lv_aload_n hx hb dX0_mixPlace_45 rfl (lv_at hl 1 rfl) ?_
    refine lv_iload_n hx hb dX0_mixPlace_46 rfl (lv_at hl 3 rfl) ?_
    refine g0i (As := [.int (nI k)]) (rest := [.long (hsh (hsh (hsh d 1) (gsu σ k)) (gho σ k))]) S (c_examsFrom l E a σ k (by omega) (by omega)) (cwV 1 hts gX0_mixPlace_X0_examsFrom rfl rfl rfl hdX0_examsFrom ⟨Nat.le_of_ble_eq_true rfl, Nat.le_of_ble_eq_true rfl⟩) hK hP rfl hl.1 rfl (Nat.le_of_ble_eq_true rfl) ⟨Nat.zero_le _, Nat.zero_le _⟩ dX0_mixPlace_47 ?_
    refine g_sl (As := [.long (hsh (hsh (hsh d 1) (gsu σ k)) (gho σ k)), .int (gEf σ k)]) (rest := []) S (c_mix l E (hsh (hsh (hsh d 1) (gsu σ k)) (gho σ k)) (gEf σ k)) (va_cwS 2 hts gX0_mixPlace_X0_mix rfl rfl rfl hdX0_mix.2 ⟨Nat.le_of_ble_eq_true rfl, Nat.le_of_ble_eq_true rfl⟩) hK (hP.sub [] rfl) rfl hl.1 rfl (Nat.le_of_ble_eq_true rfl) ⟨Nat.zero_le _, Nat.zero_le _⟩ dX0_mixPlace_50 ?_
    refine lv_lstore (lv' := [(4, .long (hsh (hsh (hsh (hsh d 1) (gsu σ k)) (gho σ k)) (gEf σ k))), (0, .ref (a 0)), (1, .long d), (3, .int (nI k))]) hx hb dX0_mixPlace_53 hl (by decide) rfl (fun ls hl => ?_)
    refine lv_lload hx hb dX0_mixPlace_55 (lv_at hl 0 rfl) ?_
    refine lv_aload_n hx hb dX0_mixPlace_57 rfl (lv_at hl 1 rfl) ?_
    refine lv_iload_n hx hb dX0_mixPlace_58 rfl (lv_at hl 3 rfl) ?_
    refine g0i (As := [.int (nI k)]) (rest := [.long (hsh (hsh (hsh (hsh d 1) (gsu σ k)) (gho σ k)) (gEf σ k))]) S (c_planLeadsTo l E a σ hO k (by omega)) (cwV 1 hts gX0_mixPlace_X0_planLeadsTo rfl rfl rfl hdX0_planLeadsTo ⟨Nat.le_of_ble_eq_true rfl, Nat.le_of_ble_eq_true rfl⟩) hK hP rfl hl.1 rfl (Nat.le_of_ble_eq_true rfl) ⟨Nat.zero_le _, Nat.zero_le _⟩ dX0_mixPlace_59 ?_
    refine g_sl (As := [.long (hsh (hsh (hsh (hsh d 1) (gsu σ k)) (gho σ k)) (gEf σ k)), .int (nI (gLd σ 40 k))]) (rest := []) S (c_mix l E (hsh (hsh (hsh (hsh d 1) (gsu σ k)) (gho σ k)) (gEf σ k)) (nI (gLd σ 40 k))) (va_cwS 2 hts gX0_mixPlace_X0_mix rfl rfl rfl hdX0_mix.2 ⟨Nat.le_of_ble_eq_true rfl, Nat.le_of_ble_eq_true rfl⟩) hK (hP.sub [] rfl) rfl hl.1 rfl (Nat.le_of_ble_eq_true rfl) ⟨Nat.zero_le _, Nat.zero_le _⟩ dX0_mixPlace_62 ?_
    refine lv_lstore (lv' := [(4, .long (hsh (hsh (hsh (hsh (hsh d 1) (gsu σ k)) (gho σ k)) (gEf σ k)) (nI (gLd σ 40 k)))), (0, .ref (a 0)), (1, .long d), (3, .int (nI k))]) hx hb dX0_mixPlace_65 hl (by decide) rfl (fun ls hl => ?_)
    refine lv_aload_n hx hb dX0_mixPlace_67 rfl (lv_at hl 1 rfl) ?_
    refine lv_iload_n hx hb dX0_mixPlace_68 rfl (lv_at hl 3 rfl) ?_
    refine g0i (As := [.int (nI k)]) (rest := []) S (c_holdsExam l E a σ k (by omega)) (cwV 1 hts gX0_mixPlace_X0_holdsExam rfl rfl rfl hdX0_holdsExam ⟨Nat.le_of_ble_eq_true rfl, Nat.le_of_ble_eq_true rfl⟩) hK hP rfl hl.1 rfl (Nat.le_of_ble_eq_true rfl) ⟨Nat.zero_le _, Nat.zero_le _⟩ dX0_mixPlace_69 ?_
    refine lv_if_eq (tgt := 86) hx hb dX0_mixPlace_72 (by decide) (fun q => absurd q ((b2i_ne0.mpr hE))) (fun _ => ?_)
    refine lv_lload hx hb dX0_mixPlace_75 (lv_at hl 0 rfl) ?_
    refine lv_aload_n hx hb dX0_mixPlace_77 rfl (lv_at hl 1 rfl) ?_
    refine lv_iload_n hx hb dX0_mixPlace_78 rfl (lv_at hl 3 rfl) ?_
    refine g0i (As := [.int (nI k)]) (rest := [.long (hsh (hsh (hsh (hsh (hsh d 1) (gsu σ k)) (gho σ k)) (gEf σ k)) (nI (gLd σ 40 k)))]) S (c_gradeOf l E a σ k (by omega) (by omega) hE) (cwV 1 hts gX0_mixPlace_X0_gradeOf rfl rfl rfl hdX0_gradeOf ⟨Nat.le_of_ble_eq_true rfl, Nat.le_of_ble_eq_true rfl⟩) hK hP rfl hl.1 rfl (Nat.le_of_ble_eq_true rfl) ⟨Nat.zero_le _, Nat.zero_le _⟩ dX0_mixPlace_79 ?_
    refine g_sl (As := [.long (hsh (hsh (hsh (hsh (hsh d 1) (gsu σ k)) (gho σ k)) (gEf σ k)) (nI (gLd σ 40 k))), .int (ggr σ k)]) (rest := []) S (c_mix l E (hsh (hsh (hsh (hsh (hsh d 1) (gsu σ k)) (gho σ k)) (gEf σ k)) (nI (gLd σ 40 k))) (ggr σ k)) (va_cwS 2 hts gX0_mixPlace_X0_mix rfl rfl rfl hdX0_mix.2 ⟨Nat.le_of_ble_eq_true rfl, Nat.le_of_ble_eq_true rfl⟩) hK (hP.sub [] rfl) rfl hl.1 rfl (Nat.le_of_ble_eq_true rfl) ⟨Nat.zero_le _, Nat.zero_le _⟩ dX0_mixPlace_82 ?_
    exact W.lret hx hb hr (fun t ht hW => ⟨_, rfl, (by rw [gPd, gPd0, hE]; rfl), ht⟩) (fun _ h => nomatch h) dX0_mixPlace_85
theorem hinX0_digest : ∀ w ∈ wsX00, w ∈ wsX0_digest := fun w h => List.mem_cons_of_mem _ (List.mem_append_left _ (List.mem_append_right _ h))
theorem hdX0_digest : yX0_digest.cls = RX0 ∧ yX0_digest.cls ≠ "java/lang/invoke/MethodHandle" ∧ yX0_digest.cls ≠ "java/lang/invoke/VarHandle" ∧ (parseMethodDescriptor yX0_digest.desc).map (fun d => d.parameters.length) = some 0 := by decide +kernel
set_option maxHeartbeats 4000000 in
set_option maxRecDepth 100000 in
theorem c_digest (l : Launch) (E : GE) (a : Nat → Nat) (σ : GS) (hO : GOK σ) : Met l yX0_digest wsX0_digest { frames := 6, cells := 0, slots := 0, locals := 136 } (va_Pc [.ref (a 0)] (gB E (gW E a σ))) (vp_Sl (fun r => r = gDig σ)) 0 0 (fun _ => False) := by
  refine w_met (cc := cX0_digest) (maxL := 4) (ret := (some .long)) (by decide) rfl (Nat.le_of_ble_eq_true rfl) ?_
  intro p e s m below meth c ls S hr hlocks hname hB hl
  obtain ⟨hP, hK⟩ := hB
  obtain ⟨hx, hb, hml, hown, hts⟩ := id S
  have tn := hO.1
  have tk := hO.2.1
  have hts0 := hinX0_digest
  have hl : lv_has ls 4 [(0, .ref (a 0))] := hl
  refine lv_ldc2 (v := 1039) hx hb hown (hts (.constantLong RX0 179 (1039)) (by decide +kernel)) dX0_digest_0 ?_
  refine lv_lstore_n (lv' := [(1, .long 1039), (0, .ref (a 0))]) hx hb dX0_digest_3 rfl hl (by decide) rfl (fun ls hl => ?_)
  refine lv_lload_n hx hb dX0_digest_4 rfl (lv_at hl 0 rfl) ?_
  refine lv_aload_n hx hb dX0_digest_5 rfl (lv_at hl 1 rfl) ?_
  refine g0i (As := []) (rest := [.long 1039]) S (c_places l E a σ) (cwV 0 hts gX0_digest_X0_places rfl rfl rfl hdX0_places ⟨Nat.le_of_ble_eq_true rfl, Nat.le_of_ble_eq_true rfl⟩) hK hP rfl hl.1 rfl (Nat.le_of_ble_eq_true rfl) ⟨Nat.zero_le _, Nat.zero_le _⟩ dX0_digest_6 ?_
  refine g_sl (As := [.long 1039, .int (nI (gn σ))]) (rest := []) S (c_mix l E 1039 (nI (gn σ))) (va_cwS 2 hts gX0_digest_X0_mix rfl rfl rfl hdX0_mix.2 ⟨Nat.le_of_ble_eq_true rfl, Nat.le_of_ble_eq_true rfl⟩) hK (hP.sub [] rfl) rfl hl.1 rfl (Nat.le_of_ble_eq_true rfl) ⟨Nat.zero_le _, Nat.zero_le _⟩ dX0_digest_9 ?_
  refine lv_lstore_n (lv' := [(1, .long (hsh 1039 (nI (gn σ)))), (0, .ref (a 0))]) hx hb dX0_digest_12 rfl hl (by decide) rfl (fun ls hl => ?_)
  refine lv_lload_n hx hb dX0_digest_13 rfl (lv_at hl 0 rfl) ?_
  refine lv_aload_n hx hb dX0_digest_14 rfl (lv_at hl 1 rfl) ?_
  refine g0i (As := []) (rest := [.long (hsh 1039 (nI (gn σ)))]) S (c_exams l E a σ) (cwV 0 hts gX0_digest_X0_exams rfl rfl rfl hdX0_exams ⟨Nat.le_of_ble_eq_true rfl, Nat.le_of_ble_eq_true rfl⟩) hK hP rfl hl.1 rfl (Nat.le_of_ble_eq_true rfl) ⟨Nat.zero_le _, Nat.zero_le _⟩ dX0_digest_15 ?_
  refine g_sl (As := [.long (hsh 1039 (nI (gn σ))), .int (popc (ge σ))]) (rest := []) S (c_mix l E (hsh 1039 (nI (gn σ))) (popc (ge σ))) (va_cwS 2 hts gX0_digest_X0_mix rfl rfl rfl hdX0_mix.2 ⟨Nat.le_of_ble_eq_true rfl, Nat.le_of_ble_eq_true rfl⟩) hK (hP.sub [] rfl) rfl hl.1 rfl (Nat.le_of_ble_eq_true rfl) ⟨Nat.zero_le _, Nat.zero_le _⟩ dX0_digest_18 ?_
  refine lv_lstore_n (lv' := [(1, .long (hsh (hsh 1039 (nI (gn σ))) (popc (ge σ)))), (0, .ref (a 0))]) hx hb dX0_digest_21 rfl hl (by decide) rfl (fun ls hl => ?_)
  refine lv_lload_n hx hb dX0_digest_22 rfl (lv_at hl 0 rfl) ?_
  refine lv_aload_n hx hb dX0_digest_23 rfl (lv_at hl 1 rfl) ?_
  refine g0i (As := []) (rest := [.long (hsh (hsh 1039 (nI (gn σ))) (popc (ge σ)))]) S (c_graded l E a σ) (cwV 0 hts gX0_digest_X0_graded rfl rfl rfl hdX0_graded ⟨Nat.le_of_ble_eq_true rfl, Nat.le_of_ble_eq_true rfl⟩) hK hP rfl hl.1 rfl (Nat.le_of_ble_eq_true rfl) ⟨Nat.zero_le _, Nat.zero_le _⟩ dX0_digest_24 ?_
  refine g_sl (As := [.long (hsh (hsh 1039 (nI (gn σ))) (popc (ge σ))), .int (gc σ)]) (rest := []) S (c_mix l E (hsh (hsh 1039 (nI (gn σ))) (popc (ge σ))) (gc σ)) (va_cwS 2 hts gX0_digest_X0_mix rfl rfl rfl hdX0_mix.2 ⟨Nat.le_of_ble_eq_true rfl, Nat.le_of_ble_eq_true rfl⟩) hK (hP.sub [] rfl) rfl hl.1 rfl (Nat.le_of_ble_eq_true rfl) ⟨Nat.zero_le _, Nat.zero_le _⟩ dX0_digest_27 ?_
  refine lv_lstore_n (lv' := [(1, .long (hsh (hsh (hsh 1039 (nI (gn σ))) (popc (ge σ))) (gc σ))), (0, .ref (a 0))]) hx hb dX0_digest_30 rfl hl (by decide) rfl (fun ls hl => ?_)
  refine lv_lload_n hx hb dX0_digest_31 rfl (lv_at hl 0 rfl) ?_
  refine lv_aload_n hx hb dX0_digest_32 rfl (lv_at hl 1 rfl) ?_
  refine g0i (As := []) (rest := [.long (hsh (hsh (hsh 1039 (nI (gn σ))) (popc (ge σ))) (gc σ))]) S (c_students l E a σ) (cwV 0 hts gX0_digest_X0_students rfl rfl rfl hdX0_students ⟨Nat.le_of_ble_eq_true rfl, Nat.le_of_ble_eq_true rfl⟩) hK hP rfl hl.1 rfl (Nat.le_of_ble_eq_true rfl) ⟨Nat.zero_le _, Nat.zero_le _⟩ dX0_digest_33 ?_
  refine g_sl (As := [.long (hsh (hsh (hsh 1039 (nI (gn σ))) (popc (ge σ))) (gc σ)), .int (nI (gk σ))]) (rest := []) S (c_mix l E (hsh (hsh (hsh 1039 (nI (gn σ))) (popc (ge σ))) (gc σ)) (nI (gk σ))) (va_cwS 2 hts gX0_digest_X0_mix rfl rfl rfl hdX0_mix.2 ⟨Nat.le_of_ble_eq_true rfl, Nat.le_of_ble_eq_true rfl⟩) hK (hP.sub [] rfl) rfl hl.1 rfl (Nat.le_of_ble_eq_true rfl) ⟨Nat.zero_le _, Nat.zero_le _⟩ dX0_digest_36 ?_
  refine lv_lstore_n (lv' := [(1, .long (hsh (hsh (hsh (hsh 1039 (nI (gn σ))) (popc (ge σ))) (gc σ)) (nI (gk σ)))), (0, .ref (a 0))]) hx hb dX0_digest_39 rfl hl (by decide) rfl (fun ls hl => ?_)
  refine lv_lload_n hx hb dX0_digest_40 rfl (lv_at hl 0 rfl) ?_
  refine lv_aload_n hx hb dX0_digest_41 rfl (lv_at hl 1 rfl) ?_
  refine g0i (As := []) (rest := [.long (hsh (hsh (hsh (hsh 1039 (nI (gn σ))) (popc (ge σ))) (gc σ)) (nI (gk σ)))]) S (c_atExams l E a σ hO) (cwV 0 hts gX0_digest_X0_atExams rfl rfl rfl hdX0_atExams ⟨Nat.le_of_ble_eq_true rfl, Nat.le_of_ble_eq_true rfl⟩) hK hP rfl hl.1 rfl (Nat.le_of_ble_eq_true rfl) ⟨Nat.zero_le _, Nat.zero_le _⟩ dX0_digest_42 ?_
  refine g_sl (As := [.long (hsh (hsh (hsh (hsh 1039 (nI (gn σ))) (popc (ge σ))) (gc σ)) (nI (gk σ))), .int (gAtE σ)]) (rest := []) S (c_mix l E (hsh (hsh (hsh (hsh 1039 (nI (gn σ))) (popc (ge σ))) (gc σ)) (nI (gk σ))) (gAtE σ)) (va_cwS 2 hts gX0_digest_X0_mix rfl rfl rfl hdX0_mix.2 ⟨Nat.le_of_ble_eq_true rfl, Nat.le_of_ble_eq_true rfl⟩) hK (hP.sub [] rfl) rfl hl.1 rfl (Nat.le_of_ble_eq_true rfl) ⟨Nat.zero_le _, Nat.zero_le _⟩ dX0_digest_45 ?_
  refine lv_lstore_n (lv' := [(1, .long (hsh (hsh (hsh (hsh (hsh 1039 (nI (gn σ))) (popc (ge σ))) (gc σ)) (nI (gk σ))) (gAtE σ))), (0, .ref (a 0))]) hx hb dX0_digest_48 rfl hl (by decide) rfl (fun ls hl => ?_)
  refine lv_lload_n hx hb dX0_digest_49 rfl (lv_at hl 0 rfl) ?_
  refine lv_aload_n hx hb dX0_digest_50 rfl (lv_at hl 1 rfl) ?_
  refine g0i (As := []) (rest := [.long (hsh (hsh (hsh (hsh (hsh 1039 (nI (gn σ))) (popc (ge σ))) (gc σ)) (nI (gk σ))) (gAtE σ))]) S (c_riskiestFork l E a σ hO) (cwV 0 hts gX0_digest_X0_riskiestFork rfl rfl rfl hdX0_riskiestFork ⟨Nat.le_of_ble_eq_true rfl, Nat.le_of_ble_eq_true rfl⟩) hK hP rfl hl.1 rfl (Nat.le_of_ble_eq_true rfl) ⟨Nat.zero_le _, Nat.zero_le _⟩ dX0_digest_51 ?_
  refine g_sl (As := [.long (hsh (hsh (hsh (hsh (hsh 1039 (nI (gn σ))) (popc (ge σ))) (gc σ)) (nI (gk σ))) (gAtE σ)), .int ((gRf σ).1)]) (rest := []) S (c_mix l E (hsh (hsh (hsh (hsh (hsh 1039 (nI (gn σ))) (popc (ge σ))) (gc σ)) (nI (gk σ))) (gAtE σ)) ((gRf σ).1)) (va_cwS 2 hts gX0_digest_X0_mix rfl rfl rfl hdX0_mix.2 ⟨Nat.le_of_ble_eq_true rfl, Nat.le_of_ble_eq_true rfl⟩) hK (hP.sub [] rfl) rfl hl.1 rfl (Nat.le_of_ble_eq_true rfl) ⟨Nat.zero_le _, Nat.zero_le _⟩ dX0_digest_54 ?_
  refine lv_lstore_n (lv' := [(1, .long (hsh (hsh (hsh (hsh (hsh (hsh 1039 (nI (gn σ))) (popc (ge σ))) (gc σ)) (nI (gk σ))) (gAtE σ)) ((gRf σ).1))), (0, .ref (a 0))]) hx hb dX0_digest_57 rfl hl (by decide) rfl (fun ls hl => ?_)
  refine lv_lload_n hx hb dX0_digest_58 rfl (lv_at hl 0 rfl) ?_
  refine lv_aload_n hx hb dX0_digest_59 rfl (lv_at hl 1 rfl) ?_
  refine g0i (As := []) (rest := [.long (hsh (hsh (hsh (hsh (hsh (hsh 1039 (nI (gn σ))) (popc (ge σ))) (gc σ)) (nI (gk σ))) (gAtE σ)) ((gRf σ).1))]) S (c_allRegret l E a σ hO) (cwV 0 hts gX0_digest_X0_allRegret rfl rfl rfl hdX0_allRegret ⟨Nat.le_of_ble_eq_true rfl, Nat.le_of_ble_eq_true rfl⟩) hK hP rfl hl.1 rfl (Nat.le_of_ble_eq_true rfl) ⟨Nat.zero_le _, Nat.zero_le _⟩ dX0_digest_60 ?_
  refine g_sl (As := [.long (hsh (hsh (hsh (hsh (hsh (hsh 1039 (nI (gn σ))) (popc (ge σ))) (gc σ)) (nI (gk σ))) (gAtE σ)) ((gRf σ).1)), .int (gAll σ)]) (rest := []) S (c_mix l E (hsh (hsh (hsh (hsh (hsh (hsh 1039 (nI (gn σ))) (popc (ge σ))) (gc σ)) (nI (gk σ))) (gAtE σ)) ((gRf σ).1)) (gAll σ)) (va_cwS 2 hts gX0_digest_X0_mix rfl rfl rfl hdX0_mix.2 ⟨Nat.le_of_ble_eq_true rfl, Nat.le_of_ble_eq_true rfl⟩) hK (hP.sub [] rfl) rfl hl.1 rfl (Nat.le_of_ble_eq_true rfl) ⟨Nat.zero_le _, Nat.zero_le _⟩ dX0_digest_63 ?_
  refine lv_lstore_n (lv' := [(1, .long (hsh (hsh (hsh (hsh (hsh (hsh (hsh 1039 (nI (gn σ))) (popc (ge σ))) (gc σ)) (nI (gk σ))) (gAtE σ)) ((gRf σ).1)) (gAll σ))), (0, .ref (a 0))]) hx hb dX0_digest_66 rfl hl (by decide) rfl (fun ls hl => ?_)
  refine lv_iconst (v := 0) hx hb dX0_digest_67 (by decide) ?_
  refine lv_istore_n (lv' := [(3, .int 0), (1, .long (hsh (hsh (hsh (hsh (hsh (hsh (hsh 1039 (nI (gn σ))) (popc (ge σ))) (gc σ)) (nI (gk σ))) (gAtE σ)) ((gRf σ).1)) (gAll σ))), (0, .ref (a 0))]) hx hb dX0_digest_68 rfl hl (by decide) rfl (fun ls hl => ?_)
  have key : ∀ (d i : Nat) (x : Int64) (ls : Array Slot), i + d = gn σ → x = gDp σ (gD0 σ) i → lv_has ls 4 [(3, .int (nI i)), (1, .long x), (0, .ref (a 0))] → W p l e (headSpec wsX0_digest { frames := 6, cells := 0, slots := 0, locals := 136 }).room s m [.ref (a 0)].toArray below meth c s.heap [] 0 0 (MQ below (vp_Sl (fun r => r = gDig σ)) [.ref (a 0)].toArray s 0 0 (fun _ => False)) (F0 m 69 ls []) := by
    intro d
    induction d with
    | zero =>
      intro i x ls hi hinv hl
      obtain rfl : i = gn σ := by omega
      refine lv_iload_n hx hb dX0_digest_69 rfl (lv_at hl 0 rfl) ?_
      refine lv_aload_n hx hb dX0_digest_70 rfl (lv_at hl 2 rfl) ?_
      refine g_get (σ := σ) hx hb hts hts0 hown hK hP 0 (by decide) (by decide +kernel) rfl rfl dX0_digest_71 ?_
      refine lv_icmp_ge (tgt := 90) hx hb dX0_digest_74 (by decide) (fun _ => ?_) (fun q => absurd ((nI_le (Nat.le_refl _) (by omega))) q)
      refine lv_iconst (v := 0) hx hb dX0_digest_90 (by decide) ?_
      refine lv_istore_n (lv' := [(3, .int 0), (1, .long x), (0, .ref (a 0))]) hx hb dX0_digest_91 rfl hl (by decide) rfl (fun ls hl => ?_)
      have key : ∀ (d i : Nat) (x : Int64) (ls : Array Slot), i + d = gk σ → x = gDs σ (gDp σ (gD0 σ) (gn σ)) i → lv_has ls 4 [(3, .int (nI i)), (1, .long x), (0, .ref (a 0))] → W p l e (headSpec wsX0_digest { frames := 6, cells := 0, slots := 0, locals := 136 }).room s m [.ref (a 0)].toArray below meth c s.heap [] 0 0 (MQ below (vp_Sl (fun r => r = gDig σ)) [.ref (a 0)].toArray s 0 0 (fun _ => False)) (F0 m 92 ls []) := by
        intro d
        induction d with
        | zero =>
          intro i x ls hi hinv hl
          obtain rfl : i = gk σ := by omega
          refine lv_iload_n hx hb dX0_digest_92 rfl (lv_at hl 0 rfl) ?_
          refine lv_aload_n hx hb dX0_digest_93 rfl (lv_at hl 2 rfl) ?_
          refine g_get (σ := σ) hx hb hts hts0 hown hK hP 1 (by decide) (by decide +kernel) rfl rfl dX0_digest_94 ?_
          refine lv_icmp_ge (tgt := 126) hx hb dX0_digest_97 (by decide) (fun _ => ?_) (fun q => absurd ((nI_le (Nat.le_refl _) (by omega))) q)
          refine lv_lload_n hx hb dX0_digest_126 rfl (lv_at hl 1 rfl) ?_
          exact W.lret hx hb hr (fun t ht hW => ⟨_, rfl, hinv, ht⟩) (fun _ h => nomatch h) dX0_digest_127
        | succ d ih =>
          intro i x ls hi hinv hl
          refine lv_iload_n hx hb dX0_digest_92 rfl (lv_at hl 0 rfl) ?_
          refine lv_aload_n hx hb dX0_digest_93 rfl (lv_at hl 2 rfl) ?_
          refine g_get (σ := σ) hx hb hts hts0 hown hK hP 1 (by decide) (by decide +kernel) rfl rfl dX0_digest_94 ?_
          refine lv_icmp_ge (tgt := 126) hx hb dX0_digest_97 (by decide) (fun q => absurd q ((nI_ge (by omega) (by omega)))) (fun _ => ?_)
          refine lv_lload_n hx hb dX0_digest_100 rfl (lv_at hl 1 rfl) ?_
          refine lv_aload_n hx hb dX0_digest_101 rfl (lv_at hl 2 rfl) ?_
          refine lv_iload_n hx hb dX0_digest_102 rfl (lv_at hl 0 rfl) ?_
          refine g0i (As := [.int (nI i)]) (rest := [.long x]) S (c_placeOf l E a σ i (by omega) (by omega)) (cwV 1 hts gX0_digest_X0_placeOf rfl rfl rfl hdX0_placeOf ⟨Nat.le_of_ble_eq_true rfl, Nat.le_of_ble_eq_true rfl⟩) hK hP rfl hl.1 rfl (Nat.le_of_ble_eq_true rfl) ⟨Nat.zero_le _, Nat.zero_le _⟩ dX0_digest_103 ?_
          refine g_sl (As := [.long x, .int (nI (gst σ i))]) (rest := []) S (c_mix l E x (nI (gst σ i))) (va_cwS 2 hts gX0_digest_X0_mix rfl rfl rfl hdX0_mix.2 ⟨Nat.le_of_ble_eq_true rfl, Nat.le_of_ble_eq_true rfl⟩) hK (hP.sub [] rfl) rfl hl.1 rfl (Nat.le_of_ble_eq_true rfl) ⟨Nat.zero_le _, Nat.zero_le _⟩ dX0_digest_106 ?_
          refine lv_lstore_n (lv' := [(1, .long (hsh x (nI (gst σ i)))), (3, .int (nI i)), (0, .ref (a 0))]) hx hb dX0_digest_109 rfl hl (by decide) rfl (fun ls hl => ?_)
          refine lv_lload_n hx hb dX0_digest_110 rfl (lv_at hl 0 rfl) ?_
          refine lv_aload_n hx hb dX0_digest_111 rfl (lv_at hl 2 rfl) ?_
          refine lv_iload_n hx hb dX0_digest_112 rfl (lv_at hl 1 rfl) ?_
          refine g0i (As := [.int (nI i)]) (rest := [.long (hsh x (nI (gst σ i)))]) S (c_passedBy l E a σ i (by omega) (by omega)) (cwV 1 hts gX0_digest_X0_passedBy rfl rfl rfl hdX0_passedBy ⟨Nat.le_of_ble_eq_true rfl, Nat.le_of_ble_eq_true rfl⟩) hK hP rfl hl.1 rfl (Nat.le_of_ble_eq_true rfl) ⟨Nat.zero_le _, Nat.zero_le _⟩ dX0_digest_113 ?_
          refine g_sl (As := [.long (hsh x (nI (gst σ i))), .int (nI (gpc σ i))]) (rest := []) S (c_mix l E (hsh x (nI (gst σ i))) (nI (gpc σ i))) (va_cwS 2 hts gX0_digest_X0_mix rfl rfl rfl hdX0_mix.2 ⟨Nat.le_of_ble_eq_true rfl, Nat.le_of_ble_eq_true rfl⟩) hK (hP.sub [] rfl) rfl hl.1 rfl (Nat.le_of_ble_eq_true rfl) ⟨Nat.zero_le _, Nat.zero_le _⟩ dX0_digest_116 ?_
          refine lv_lstore_n (lv' := [(1, .long (hsh (hsh x (nI (gst σ i))) (nI (gpc σ i)))), (3, .int (nI i)), (0, .ref (a 0))]) hx hb dX0_digest_119 rfl hl (by decide) rfl (fun ls hl => ?_)
          refine lv_iinc (v := nI (i + 1)) (lv' := [(3, .int (nI (i + 1))), (1, .long (hsh (hsh x (nI (gst σ i))) (nI (gpc σ i)))), (0, .ref (a 0))]) hx hb dX0_digest_120 hl (k := 1) rfl (nI_1 i) (by decide) rfl (fun ls hl => ?_)
          refine lv_goto (tgt := 92) hx hb dX0_digest_123 (by decide) ?_
          exact ih (i + 1) (hsh (hsh x (nI (gst σ i))) (nI (gpc σ i))) ls (by omega) (by rw [hinv]; rfl) (lv_sub hl [0, 1, 2] rfl)
      exact key (gk σ) 0 x ls (by omega) hinv (lv_sub hl [0, 1, 2] rfl)
    | succ d ih =>
      intro i x ls hi hinv hl
      refine lv_iload_n hx hb dX0_digest_69 rfl (lv_at hl 0 rfl) ?_
      refine lv_aload_n hx hb dX0_digest_70 rfl (lv_at hl 2 rfl) ?_
      refine g_get (σ := σ) hx hb hts hts0 hown hK hP 0 (by decide) (by decide +kernel) rfl rfl dX0_digest_71 ?_
      refine lv_icmp_ge (tgt := 90) hx hb dX0_digest_74 (by decide) (fun q => absurd q ((nI_ge (by omega) (by omega)))) (fun _ => ?_)
      refine lv_aload_n hx hb dX0_digest_77 rfl (lv_at hl 2 rfl) ?_
      refine lv_lload_n hx hb dX0_digest_78 rfl (lv_at hl 1 rfl) ?_
      refine lv_iload_n hx hb dX0_digest_79 rfl (lv_at hl 0 rfl) ?_
      refine g0l (As := [.long x, .int (nI i)]) (rest := []) S (c_mixPlace l E a σ hO x i (by omega)) (cwV 2 hts gX0_digest_X0_mixPlace rfl rfl rfl hdX0_mixPlace ⟨Nat.le_of_ble_eq_true rfl, Nat.le_of_ble_eq_true rfl⟩) hK hP rfl hl.1 rfl (Nat.le_of_ble_eq_true rfl) ⟨Nat.zero_le _, Nat.zero_le _⟩ dX0_digest_80 ?_
      refine lv_lstore_n (lv' := [(1, .long (gPd σ x i)), (3, .int (nI i)), (0, .ref (a 0))]) hx hb dX0_digest_83 rfl hl (by decide) rfl (fun ls hl => ?_)
      refine lv_iinc (v := nI (i + 1)) (lv' := [(3, .int (nI (i + 1))), (1, .long (gPd σ x i)), (0, .ref (a 0))]) hx hb dX0_digest_84 hl (k := 1) rfl (nI_1 i) (by decide) rfl (fun ls hl => ?_)
      refine lv_goto (tgt := 69) hx hb dX0_digest_87 (by decide) ?_
      exact ih (i + 1) (gPd σ x i) ls (by omega) (by rw [hinv]; rfl) (lv_sub hl [0, 1, 2] rfl)
  exact key (gn σ) 0 (gD0 σ) ls (by omega) rfl (lv_sub hl [0, 1, 2] rfl)
end
section

/-! ExamGarden's methods that write, told of the state -/
def gSeE (σ : GS) (k : Nat) : GS := (gn σ, gk σ, gc σ, gs σ, ge σ, glf σ, grt σ, gst σ, gpc σ, gpf σ, glo σ, ghi σ, gwt σ, ggr σ, upd (gsu σ) k (if gHas σ k then ggr σ k else nI (glo σ k)), upd (gho σ) k (if gHas σ k then ggr σ k else nI (ghi σ k)), upd (ghs σ) k (if gHas σ k then ggr σ k else 0), grb σ)
def gGr1 (f : Nat → Int32) (σ : GS) (k : Nat) : Nat → Int32 := upd f k (imx (f (glf σ k)) (f (grt σ k)))
def gSeF (σ : GS) (k : Nat) : GS := (gn σ, gk σ, gc σ, gs σ, ge σ, glf σ, grt σ, gst σ, gpc σ, gpf σ, glo σ, ghi σ, gwt σ, ggr σ, gGr1 (gsu σ) σ k, gGr1 (gho σ) σ k, gGr1 (ghs σ) σ k, grb σ)
/-- all forks from e on, j places far -/
def gSA (σ : GS) (e : Nat) : Nat → GS
  | 0 => σ
  | j + 1 => if gEx (ge σ) (e + j) then gSA σ e j else gSeF (gSA σ e j) (e + j)
theorem gSA_same (σ : GS) (e : Nat) : ∀ j, gn (gSA σ e j) = gn σ ∧ ge (gSA σ e j) = ge σ ∧ (GOK σ → GOK (gSA σ e j))
  | 0 => ⟨rfl, rfl, id⟩
  | j + 1 => by
    have ih := gSA_same σ e j
    rw [gSA]
    split
    · exact ih
    · exact ⟨ih.1, ih.2.1, fun h => ih.2.2 h⟩
def gWalk (σ : GS) (s : Nat) (b : Bool) : GS := (gn σ, gk σ, gc σ, gs σ, ge σ, glf σ, grt σ, va_up (gst σ) s (gTo σ (gst σ s) b), va_up (gpc σ) s (gpc σ s + 1), va_up (gpf σ) (s * 40 + gpc σ s) (gst σ s), glo σ, ghi σ, gwt σ, ggr σ, gsu σ, gho σ, ghs σ, grb σ)
theorem gWalk_ok {σ : GS} (h : GOK σ) {s : Nat} (hs : s < gk σ) (hE : gEx (ge σ) (gst σ s) = false) (b : Bool) : GOK (gWalk σ s b) := by
  obtain ⟨h1, h2, h3, h4, h5, h6, h7, h8, h9⟩ := h
  have hst := h9 s hs
  have hto : gTo σ (gst σ s) b < gst σ s := by
    have q := h8 _ hst hE
    unfold gTo
    split
    · exact q.2
    · exact q.1
  have hto2 : gTo σ (gst σ s) b < 40 := by have := h5 s; omega
  refine ⟨h1, h2, h3, h4, fun j => ?_, fun j => ?_, fun j => ?_, h8, fun j hj => ?_⟩
  · show va_up (gst σ) s _ j < 40
    unfold va_up
    split
    · exact hto2
    · exact h5 j
  · show va_up (gpf σ) _ _ j < 40
    unfold va_up
    split
    · exact h5 s
    · exact h6 j
  · show va_up (gst σ) s _ j + va_up (gpc σ) s _ j ≤ 39
    unfold va_up
    have := h7 s
    have := h7 j
    split <;> omega
  · show va_up (gst σ) s _ j < gn σ
    unfold va_up
    split
    · omega
    · exact h9 j hj
def gFo (s : Nat) : Nat → GS → GS
  | 0, σ => σ
  | f + 1, σ => if gEx (ge σ) (gst σ s) then σ else gFo s f (gWalk σ s (gPl σ (gst σ s)))
def gFc (s : Nat) : Nat → GS → Nat
  | 0, _ => 0
  | f + 1, σ => if gEx (ge σ) (gst σ s) then 0 else gFc s f (gWalk σ s (gPl σ (gst σ s))) + 1
theorem gSA_gc (σ : GS) (e : Nat) : ∀ j, gc (gSA σ e j) = gc σ
  | 0 => rfl
  | j + 1 => by
    have ih := gSA_gc σ e j
    rw [gSA]
    split <;> exact ih
def gInc (σ : GS) : GS := (gn σ + 1, σ.2)
def gAddE (σ : GS) (x y : Nat) : GS := gInc (gSeE (gn σ, gk σ, gc σ, gs σ, ge σ ||| gbit (gn σ), glf σ, grt σ, gst σ, gpc σ, gpf σ, va_up (glo σ) (gn σ) x, va_up (ghi σ) (gn σ) y, gwt σ, upd (ggr σ) (gn σ) (-1), gsu σ, gho σ, ghs σ, vp_updL (grb σ) (gn σ) (gbit (gn σ))) (gn σ))
def gAddF (σ : GS) (x y : Nat) (w : Int32) : GS := gInc (gSeF (gn σ, gk σ, gc σ, gs σ, ge σ, va_up (glf σ) (gn σ) x, va_up (grt σ) (gn σ) y, gst σ, gpc σ, gpf σ, glo σ, ghi σ, upd (gwt σ) (gn σ) w, upd (ggr σ) (gn σ) (-1), gsu σ, gho σ, ghs σ, vp_updL (grb σ) (gn σ) ((gbit (gn σ) ||| grb σ x) ||| grb σ y)) (gn σ))
def gGrd (σ : GS) (e : Nat) (g : Int32) : GS := gSA (gSeE (gn σ, gk σ, gc σ + 1, gs σ + g, ge σ, glf σ, grt σ, gst σ, gpc σ, gpf σ, glo σ, ghi σ, gwt σ, upd (ggr σ) e g, gsu σ, gho σ, ghs σ, grb σ) e) (e + 1) (gn σ - (e + 1))
def gWgh (σ : GS) (k : Nat) (w : Int32) : GS := (gn σ, gk σ, gc σ, gs σ, ge σ, glf σ, grt σ, gst σ, gpc σ, gpf σ, glo σ, ghi σ, upd (gwt σ) k w, ggr σ, gsu σ, gho σ, ghs σ, grb σ)
def gEnr (σ : GS) (k : Nat) : GS := (gn σ, gk σ + 1, gc σ, gs σ, ge σ, glf σ, grt σ, va_up (gst σ) (gk σ) k, gpc σ, gpf σ, glo σ, ghi σ, gwt σ, ggr σ, gsu σ, gho σ, ghs σ, grb σ)
def gBk (σ : GS) (s c : Nat) : GS := (gn σ, gk σ, gc σ, gs σ, ge σ, glf σ, grt σ, va_up (gst σ) s (gpf σ (s * 40 + c)), va_up (gpc σ) s c, gpf σ, glo σ, ghi σ, gwt σ, ggr σ, gsu σ, gho σ, ghs σ, grb σ)
theorem hinX0_settleExam : ∀ w ∈ wsX00, w ∈ wsX0_settleExam := fun w h => List.mem_cons_of_mem _ (List.mem_append_right _ h)
theorem hdX0_settleExam : yX0_settleExam.cls = RX0 ∧ yX0_settleExam.cls ≠ "java/lang/invoke/MethodHandle" ∧ yX0_settleExam.cls ≠ "java/lang/invoke/VarHandle" ∧ (parseMethodDescriptor yX0_settleExam.desc).map (fun d => d.parameters.length) = some 1 := by decide +kernel
set_option maxHeartbeats 4000000 in
set_option maxRecDepth 100000 in
theorem c_settleExam (l : Launch) (E : GE) (a : Nat → Nat) (σ : GS) (sz : Nat) (k : Nat) (hk : k < 40) : Met l yX0_settleExam wsX0_settleExam { frames := 2, cells := 0, slots := 0, locals := 42 } (va_Pc [.ref (a 0), .int (nI k)] (gBw E sz (gW E a σ))) (gQv E (gW E a σ) (gW E a (gSeE σ k)) sz) 0 0 (va_A (gW E a σ) sz) := by
  refine w_met (cc := cX0_settleExam) (maxL := 4) (ret := none) (by decide) rfl (Nat.le_of_ble_eq_true rfl) ?_
  intro p e s m below meth c ls S hr hlocks hname hB hl
  obtain ⟨hsz, hP, hK, hD0⟩ := hB
  subst hsz
  have hD := hD0.self (sz := s.heap.size)
  have hA : ∀ q : Nat, s.heap.size ≤ q → va_A (gW E a σ) s.heap.size q := fun q h => Or.inr h
  have hS : va_S (va_A (gW E a σ) s.heap.size) s.heap s.heap [] := va_S.rf
  obtain ⟨hx, hb, hml, hown, hts⟩ := id S
  have hts0 := hinX0_settleExam
  rcases hG : gHas σ k with _ | _
  · have hl : lv_has ls 4 [(0, .ref (a 0)), (1, .int (nI k))] := hl
    refine lv_aload_n hx hb dX0_settleExam_0 rfl (lv_at hl 0 rfl) ?_
    refine lv_iload_n hx hb dX0_settleExam_1 rfl (lv_at hl 1 rfl) ?_
    refine g0i (As := [.int (nI k)]) (rest := []) S (c_hasGrade l E a σ k (by omega)) (cwV 1 hts gX0_settleExam_X0_hasGrade rfl rfl rfl hdX0_hasGrade ⟨Nat.le_of_ble_eq_true rfl, Nat.le_of_ble_eq_true rfl⟩) hK hP rfl hl.1 rfl (Nat.le_of_ble_eq_true rfl) ⟨Nat.zero_le _, Nat.zero_le _⟩ dX0_settleExam_2 ?_
    refine lv_if_ne (tgt := 12) hx hb dX0_settleExam_5 (by decide) (fun q => absurd ((b2i_eq0.mpr hG)) q) (fun _ => ?_)
    refine lv_iconst (v := 1) hx hb dX0_settleExam_8 (by decide) ?_
    refine lv_goto (tgt := 13) hx hb dX0_settleExam_9 (by decide) ?_
    refine lv_istore_n (lv' := [(2, .int 1), (0, .ref (a 0)), (1, .int (nI k))]) hx hb dX0_settleExam_13 rfl hl (by decide) rfl (fun ls hl => ?_)
    refine lv_aload_n hx hb dX0_settleExam_14 rfl (lv_at hl 1 rfl) ?_
    refine g_get (σ := σ) hx hb hts hts0 hown hK hP 10 (by decide) (by decide +kernel) rfl rfl dX0_settleExam_15 ?_
    refine lv_iload_n hx hb dX0_settleExam_18 rfl (lv_at hl 2 rfl) ?_
    refine g_at S gX0_settleExam_X0_at hK hP 6 rfl (by decide) (v := (ggr σ) k) (vp_in_nI (by omega) (by decide)) (by rw [nI_clamp (by omega)]) hl.1 (Nat.le_of_ble_eq_true rfl) ⟨Nat.zero_le _, Nat.zero_le _⟩ ⟨Nat.le_of_ble_eq_true rfl, Nat.le_of_ble_eq_true rfl⟩ dX0_settleExam_19 ?_
    refine lv_istore_n (lv' := [(3, .int ((ggr σ) k)), (2, .int 1), (0, .ref (a 0)), (1, .int (nI k))]) hx hb dX0_settleExam_22 rfl hl (by decide) rfl (fun ls hl => ?_)
    refine lv_aload_n hx hb dX0_settleExam_23 rfl (lv_at hl 2 rfl) ?_
    refine g_get (σ := σ) hx hb hts hts0 hown hK hP 11 (by decide) (by decide +kernel) rfl rfl dX0_settleExam_24 ?_
    refine lv_iload_n hx hb dX0_settleExam_27 rfl (lv_at hl 3 rfl) ?_
    refine lv_iload_n hx hb dX0_settleExam_28 rfl (lv_at hl 1 rfl) ?_
    refine lv_if_eq (tgt := 43) hx hb dX0_settleExam_29 (by decide) (fun q => absurd q ((by decide : ¬ (1 : Int32) = 0))) (fun _ => ?_)
    refine lv_aload_n hx hb dX0_settleExam_32 rfl (lv_at hl 2 rfl) ?_
    refine g_get (σ := σ) hx hb hts hts0 hown hK hP 5 (by decide) (by decide +kernel) rfl rfl dX0_settleExam_33 ?_
    refine lv_iload_n hx hb dX0_settleExam_36 rfl (lv_at hl 3 rfl) ?_
    refine g_at S gX0_settleExam_X0_at hK hP 1 rfl (by decide) (v := nI ((glo σ) k)) (vp_in_nI (by omega) (by decide)) (by rw [nI_clamp (by omega)]) hl.1 (Nat.le_of_ble_eq_true rfl) ⟨Nat.zero_le _, Nat.zero_le _⟩ ⟨Nat.le_of_ble_eq_true rfl, Nat.le_of_ble_eq_true rfl⟩ dX0_settleExam_37 ?_
    refine lv_goto (tgt := 44) hx hb dX0_settleExam_40 (by decide) ?_
    refine g_put S gX0_settleExam_X0_put hK hP hD hS hA 7 rfl (by decide) (f' := (upd ((gsu σ)) k (nI ((glo σ) k)))) (vp_in_nI (by omega) (by decide)) (by rw [nI_clamp (by omega)]) hl.1 (Nat.le_of_ble_eq_true rfl) ⟨Nat.zero_le _, Nat.zero_le _⟩ ⟨Nat.le_of_ble_eq_true rfl, Nat.le_of_ble_eq_true rfl⟩ dX0_settleExam_44 (fun H locs hP hD hS => ?_)
    have hP : gP E (gW E a (gn σ, gk σ, gc σ, gs σ, ge σ, glf σ, grt σ, gst σ, gpc σ, gpf σ, glo σ, ghi σ, gwt σ, ggr σ, upd ((gsu σ)) k (nI ((glo σ) k)), gho σ, ghs σ, grb σ)) H := hP
    have hD : va_D (va_A (gW E a σ) s.heap.size) (gW E a (gn σ, gk σ, gc σ, gs σ, ge σ, glf σ, grt σ, gst σ, gpc σ, gpf σ, glo σ, ghi σ, gwt σ, ggr σ, upd ((gsu σ)) k (nI ((glo σ) k)), gho σ, ghs σ, grb σ)) := hD
    refine lv_aload_n hx hb dX0_settleExam_47 rfl (lv_at hl 2 rfl) ?_
    refine g_get (σ := (gn σ, gk σ, gc σ, gs σ, ge σ, glf σ, grt σ, gst σ, gpc σ, gpf σ, glo σ, ghi σ, gwt σ, ggr σ, upd ((gsu σ)) k (nI ((glo σ) k)), gho σ, ghs σ, grb σ)) hx hb hts hts0 hown hK hP 12 (by decide) (by decide +kernel) rfl rfl dX0_settleExam_48 ?_
    refine lv_iload_n hx hb dX0_settleExam_51 rfl (lv_at hl 3 rfl) ?_
    refine lv_iload_n hx hb dX0_settleExam_52 rfl (lv_at hl 1 rfl) ?_
    refine lv_if_eq (tgt := 67) hx hb dX0_settleExam_53 (by decide) (fun q => absurd q ((by decide : ¬ (1 : Int32) = 0))) (fun _ => ?_)
    refine lv_aload_n hx hb dX0_settleExam_56 rfl (lv_at hl 2 rfl) ?_
    refine g_get (σ := (gn σ, gk σ, gc σ, gs σ, ge σ, glf σ, grt σ, gst σ, gpc σ, gpf σ, glo σ, ghi σ, gwt σ, ggr σ, upd ((gsu σ)) k (nI ((glo σ) k)), gho σ, ghs σ, grb σ)) hx hb hts hts0 hown hK hP 6 (by decide) (by decide +kernel) rfl rfl dX0_settleExam_57 ?_
    refine lv_iload_n hx hb dX0_settleExam_60 rfl (lv_at hl 3 rfl) ?_
    refine g_at S gX0_settleExam_X0_at hK hP 2 rfl (by decide) (v := nI ((ghi σ) k)) (vp_in_nI (by omega) (by decide)) (by rw [nI_clamp (by omega)]) hl.1 (Nat.le_of_ble_eq_true rfl) ⟨Nat.zero_le _, Nat.zero_le _⟩ ⟨Nat.le_of_ble_eq_true rfl, Nat.le_of_ble_eq_true rfl⟩ dX0_settleExam_61 ?_
    refine lv_goto (tgt := 68) hx hb dX0_settleExam_64 (by decide) ?_
    refine g_put S gX0_settleExam_X0_put hK hP hD hS hA 8 rfl (by decide) (f' := (upd ((gho σ)) k (nI ((ghi σ) k)))) (vp_in_nI (by omega) (by decide)) (by rw [nI_clamp (by omega)]) hl.1 (Nat.le_of_ble_eq_true rfl) ⟨Nat.zero_le _, Nat.zero_le _⟩ ⟨Nat.le_of_ble_eq_true rfl, Nat.le_of_ble_eq_true rfl⟩ dX0_settleExam_68 (fun H locs hP hD hS => ?_)
    have hP : gP E (gW E a (gn σ, gk σ, gc σ, gs σ, ge σ, glf σ, grt σ, gst σ, gpc σ, gpf σ, glo σ, ghi σ, gwt σ, ggr σ, upd ((gsu σ)) k (nI ((glo σ) k)), upd ((gho σ)) k (nI ((ghi σ) k)), ghs σ, grb σ)) H := hP
    have hD : va_D (va_A (gW E a σ) s.heap.size) (gW E a (gn σ, gk σ, gc σ, gs σ, ge σ, glf σ, grt σ, gst σ, gpc σ, gpf σ, glo σ, ghi σ, gwt σ, ggr σ, upd ((gsu σ)) k (nI ((glo σ) k)), upd ((gho σ)) k (nI ((ghi σ) k)), ghs σ, grb σ)) := hD
    refine lv_aload_n hx hb dX0_settleExam_71 rfl (lv_at hl 2 rfl) ?_
    refine g_get (σ := (gn σ, gk σ, gc σ, gs σ, ge σ, glf σ, grt σ, gst σ, gpc σ, gpf σ, glo σ, ghi σ, gwt σ, ggr σ, upd ((gsu σ)) k (nI ((glo σ) k)), upd ((gho σ)) k (nI ((ghi σ) k)), ghs σ, grb σ)) hx hb hts hts0 hown hK hP 13 (by decide) (by decide +kernel) rfl rfl dX0_settleExam_72 ?_
    refine lv_iload_n hx hb dX0_settleExam_75 rfl (lv_at hl 3 rfl) ?_
    refine lv_iload_n hx hb dX0_settleExam_76 rfl (lv_at hl 1 rfl) ?_
    refine lv_if_eq (tgt := 84) hx hb dX0_settleExam_77 (by decide) (fun q => absurd q ((by decide : ¬ (1 : Int32) = 0))) (fun _ => ?_)
    refine lv_iconst (v := 0) hx hb dX0_settleExam_80 (by decide) ?_
    refine lv_goto (tgt := 85) hx hb dX0_settleExam_81 (by decide) ?_
    refine g_put S gX0_settleExam_X0_put hK hP hD hS hA 9 rfl (by decide) (f' := (upd ((ghs σ)) k 0)) (vp_in_nI (by omega) (by decide)) (by rw [nI_clamp (by omega)]) hl.1 (Nat.le_of_ble_eq_true rfl) ⟨Nat.zero_le _, Nat.zero_le _⟩ ⟨Nat.le_of_ble_eq_true rfl, Nat.le_of_ble_eq_true rfl⟩ dX0_settleExam_85 (fun H locs hP hD hS => ?_)
    have hP : gP E (gW E a (gn σ, gk σ, gc σ, gs σ, ge σ, glf σ, grt σ, gst σ, gpc σ, gpf σ, glo σ, ghi σ, gwt σ, ggr σ, upd ((gsu σ)) k (nI ((glo σ) k)), upd ((gho σ)) k (nI ((ghi σ) k)), upd ((ghs σ)) k 0, grb σ)) H := hP
    have hD : va_D (va_A (gW E a σ) s.heap.size) (gW E a (gn σ, gk σ, gc σ, gs σ, ge σ, glf σ, grt σ, gst σ, gpc σ, gpf σ, glo σ, ghi σ, gwt σ, ggr σ, upd ((gsu σ)) k (nI ((glo σ) k)), upd ((gho σ)) k (nI ((ghi σ) k)), upd ((ghs σ)) k 0, grb σ)) := hD
    exact W.vret hx hb hr (fun t ht hW => ⟨⟨(), rfl, trivial, by show gP E _ t.heap; rw [ht]; rw [gSeE, hG]; exact hP⟩, hS.F ht⟩) hS.2.2 dX0_settleExam_88
  · have hl : lv_has ls 4 [(0, .ref (a 0)), (1, .int (nI k))] := hl
    refine lv_aload_n hx hb dX0_settleExam_0 rfl (lv_at hl 0 rfl) ?_
    refine lv_iload_n hx hb dX0_settleExam_1 rfl (lv_at hl 1 rfl) ?_
    refine g0i (As := [.int (nI k)]) (rest := []) S (c_hasGrade l E a σ k (by omega)) (cwV 1 hts gX0_settleExam_X0_hasGrade rfl rfl rfl hdX0_hasGrade ⟨Nat.le_of_ble_eq_true rfl, Nat.le_of_ble_eq_true rfl⟩) hK hP rfl hl.1 rfl (Nat.le_of_ble_eq_true rfl) ⟨Nat.zero_le _, Nat.zero_le _⟩ dX0_settleExam_2 ?_
    refine lv_if_ne (tgt := 12) hx hb dX0_settleExam_5 (by decide) (fun _ => ?_) (fun q => absurd q ((b2i_ne0.mpr hG)))
    refine lv_iconst (v := 0) hx hb dX0_settleExam_12 (by decide) ?_
    refine lv_istore_n (lv' := [(2, .int 0), (0, .ref (a 0)), (1, .int (nI k))]) hx hb dX0_settleExam_13 rfl hl (by decide) rfl (fun ls hl => ?_)
    refine lv_aload_n hx hb dX0_settleExam_14 rfl (lv_at hl 1 rfl) ?_
    refine g_get (σ := σ) hx hb hts hts0 hown hK hP 10 (by decide) (by decide +kernel) rfl rfl dX0_settleExam_15 ?_
    refine lv_iload_n hx hb dX0_settleExam_18 rfl (lv_at hl 2 rfl) ?_
    refine g_at S gX0_settleExam_X0_at hK hP 6 rfl (by decide) (v := (ggr σ) k) (vp_in_nI (by omega) (by decide)) (by rw [nI_clamp (by omega)]) hl.1 (Nat.le_of_ble_eq_true rfl) ⟨Nat.zero_le _, Nat.zero_le _⟩ ⟨Nat.le_of_ble_eq_true rfl, Nat.le_of_ble_eq_true rfl⟩ dX0_settleExam_19 ?_
    refine lv_istore_n (lv' := [(3, .int ((ggr σ) k)), (2, .int 0), (0, .ref (a 0)), (1, .int (nI k))]) hx hb dX0_settleExam_22 rfl hl (by decide) rfl (fun ls hl => ?_)
    refine lv_aload_n hx hb dX0_settleExam_23 rfl (lv_at hl 2 rfl) ?_
    refine g_get (σ := σ) hx hb hts hts0 hown hK hP 11 (by decide) (by decide +kernel) rfl rfl dX0_settleExam_24 ?_
    refine lv_iload_n hx hb dX0_settleExam_27 rfl (lv_at hl 3 rfl) ?_
    refine lv_iload_n hx hb dX0_settleExam_28 rfl (lv_at hl 1 rfl) ?_
    refine lv_if_eq (tgt := 43) hx hb dX0_settleExam_29 (by decide) (fun _ => ?_) (fun q => absurd ((rfl : (0 : Int32) = 0)) q)
    refine lv_iload_n hx hb dX0_settleExam_43 rfl (lv_at hl 0 rfl) ?_
    refine g_put S gX0_settleExam_X0_put hK hP hD hS hA 7 rfl (by decide) (f' := (upd ((gsu σ)) k ((ggr σ) k))) (vp_in_nI (by omega) (by decide)) (by rw [nI_clamp (by omega)]) hl.1 (Nat.le_of_ble_eq_true rfl) ⟨Nat.zero_le _, Nat.zero_le _⟩ ⟨Nat.le_of_ble_eq_true rfl, Nat.le_of_ble_eq_true rfl⟩ dX0_settleExam_44 (fun H locs hP hD hS => ?_)
    have hP : gP E (gW E a (gn σ, gk σ, gc σ, gs σ, ge σ, glf σ, grt σ, gst σ, gpc σ, gpf σ, glo σ, ghi σ, gwt σ, ggr σ, upd ((gsu σ)) k ((ggr σ) k), gho σ, ghs σ, grb σ)) H := hP
    have hD : va_D (va_A (gW E a σ) s.heap.size) (gW E a (gn σ, gk σ, gc σ, gs σ, ge σ, glf σ, grt σ, gst σ, gpc σ, gpf σ, glo σ, ghi σ, gwt σ, ggr σ, upd ((gsu σ)) k ((ggr σ) k), gho σ, ghs σ, grb σ)) := hD
    refine lv_aload_n hx hb dX0_settleExam_47 rfl (lv_at hl 2 rfl) ?_
    refine g_get (σ := (gn σ, gk σ, gc σ, gs σ, ge σ, glf σ, grt σ, gst σ, gpc σ, gpf σ, glo σ, ghi σ, gwt σ, ggr σ, upd ((gsu σ)) k ((ggr σ) k), gho σ, ghs σ, grb σ)) hx hb hts hts0 hown hK hP 12 (by decide) (by decide +kernel) rfl rfl dX0_settleExam_48 ?_
    refine lv_iload_n hx hb dX0_settleExam_51 rfl (lv_at hl 3 rfl) ?_
    refine lv_iload_n hx hb dX0_settleExam_52 rfl (lv_at hl 1 rfl) ?_
    refine lv_if_eq (tgt := 67) hx hb dX0_settleExam_53 (by decide) (fun _ => ?_) (fun q => absurd ((rfl : (0 : Int32) = 0)) q)
    refine lv_iload_n hx hb dX0_settleExam_67 rfl (lv_at hl 0 rfl) ?_
    refine g_put S gX0_settleExam_X0_put hK hP hD hS hA 8 rfl (by decide) (f' := (upd ((gho σ)) k ((ggr σ) k))) (vp_in_nI (by omega) (by decide)) (by rw [nI_clamp (by omega)]) hl.1 (Nat.le_of_ble_eq_true rfl) ⟨Nat.zero_le _, Nat.zero_le _⟩ ⟨Nat.le_of_ble_eq_true rfl, Nat.le_of_ble_eq_true rfl⟩ dX0_settleExam_68 (fun H locs hP hD hS => ?_)
    have hP : gP E (gW E a (gn σ, gk σ, gc σ, gs σ, ge σ, glf σ, grt σ, gst σ, gpc σ, gpf σ, glo σ, ghi σ, gwt σ, ggr σ, upd ((gsu σ)) k ((ggr σ) k), upd ((gho σ)) k ((ggr σ) k), ghs σ, grb σ)) H := hP
    have hD : va_D (va_A (gW E a σ) s.heap.size) (gW E a (gn σ, gk σ, gc σ, gs σ, ge σ, glf σ, grt σ, gst σ, gpc σ, gpf σ, glo σ, ghi σ, gwt σ, ggr σ, upd ((gsu σ)) k ((ggr σ) k), upd ((gho σ)) k ((ggr σ) k), ghs σ, grb σ)) := hD
    refine lv_aload_n hx hb dX0_settleExam_71 rfl (lv_at hl 2 rfl) ?_
    refine g_get (σ := (gn σ, gk σ, gc σ, gs σ, ge σ, glf σ, grt σ, gst σ, gpc σ, gpf σ, glo σ, ghi σ, gwt σ, ggr σ, upd ((gsu σ)) k ((ggr σ) k), upd ((gho σ)) k ((ggr σ) k), ghs σ, grb σ)) hx hb hts hts0 hown hK hP 13 (by decide) (by decide +kernel) rfl rfl dX0_settleExam_72 ?_
    refine lv_iload_n hx hb dX0_settleExam_75 rfl (lv_at hl 3 rfl) ?_
    refine lv_iload_n hx hb dX0_settleExam_76 rfl (lv_at hl 1 rfl) ?_
    refine lv_if_eq (tgt := 84) hx hb dX0_settleExam_77 (by decide) (fun _ => ?_) (fun q => absurd ((rfl : (0 : Int32) = 0)) q)
    refine lv_iload_n hx hb dX0_settleExam_84 rfl (lv_at hl 0 rfl) ?_
    refine g_put S gX0_settleExam_X0_put hK hP hD hS hA 9 rfl (by decide) (f' := (upd ((ghs σ)) k ((ggr σ) k))) (vp_in_nI (by omega) (by decide)) (by rw [nI_clamp (by omega)]) hl.1 (Nat.le_of_ble_eq_true rfl) ⟨Nat.zero_le _, Nat.zero_le _⟩ ⟨Nat.le_of_ble_eq_true rfl, Nat.le_of_ble_eq_true rfl⟩ dX0_settleExam_85 (fun H locs hP hD hS => ?_)
    have hP : gP E (gW E a (gn σ, gk σ, gc σ, gs σ, ge σ, glf σ, grt σ, gst σ, gpc σ, gpf σ, glo σ, ghi σ, gwt σ, ggr σ, upd ((gsu σ)) k ((ggr σ) k), upd ((gho σ)) k ((ggr σ) k), upd ((ghs σ)) k ((ggr σ) k), grb σ)) H := hP
    have hD : va_D (va_A (gW E a σ) s.heap.size) (gW E a (gn σ, gk σ, gc σ, gs σ, ge σ, glf σ, grt σ, gst σ, gpc σ, gpf σ, glo σ, ghi σ, gwt σ, ggr σ, upd ((gsu σ)) k ((ggr σ) k), upd ((gho σ)) k ((ggr σ) k), upd ((ghs σ)) k ((ggr σ) k), grb σ)) := hD
    exact W.vret hx hb hr (fun t ht hW => ⟨⟨(), rfl, trivial, by show gP E _ t.heap; rw [ht]; rw [gSeE, hG]; exact hP⟩, hS.F ht⟩) hS.2.2 dX0_settleExam_88
theorem hinX0_settleGreater : ∀ w ∈ wsX00, w ∈ wsX0_settleGreater := fun w h => List.mem_cons_of_mem _ (List.mem_append_right _ h)
theorem hdX0_settleGreater : yX0_settleGreater.cls = RX0 ∧ yX0_settleGreater.cls ≠ "java/lang/invoke/MethodHandle" ∧ yX0_settleGreater.cls ≠ "java/lang/invoke/VarHandle" ∧ (parseMethodDescriptor yX0_settleGreater.desc).map (fun d => d.parameters.length) = some 2 := by decide +kernel
set_option maxHeartbeats 4000000 in
set_option maxRecDepth 100000 in
theorem c_sg_su (l : Launch) (E : GE) (a : Nat → Nat) (σ : GS) (sz : Nat) (k : Nat) (hk : k < 40) (t1 : glf σ k < 40) (t2 : grt σ k < 40) : Met l yX0_settleGreater wsX0_settleGreater { frames := 1, cells := 0, slots := 0, locals := 22 } (va_Pc [.ref (a 0), .ref (a 7), .int (nI k)] (gBw E sz (gW E a σ))) (gQv E (gW E a σ) (gW E a ((gn σ, gk σ, gc σ, gs σ, ge σ, glf σ, grt σ, gst σ, gpc σ, gpf σ, glo σ, ghi σ, gwt σ, ggr σ, gGr1 (gsu σ) σ k, gho σ, ghs σ, grb σ))) sz) 0 0 (va_A (gW E a σ) sz) := by
  refine w_met (cc := cX0_settleGreater) (maxL := 3) (ret := none) (by decide) rfl (Nat.le_of_ble_eq_true rfl) ?_
  intro p e s m below meth c ls S hr hlocks hname hB hl
  obtain ⟨hsz, hP, hK, hD0⟩ := hB
  subst hsz
  have hD := hD0.self (sz := s.heap.size)
  have hA : ∀ q : Nat, s.heap.size ≤ q → va_A (gW E a σ) s.heap.size q := fun q h => Or.inr h
  have hS : va_S (va_A (gW E a σ) s.heap.size) s.heap s.heap [] := va_S.rf
  obtain ⟨hx, hb, hml, hown, hts⟩ := id S
  have hts0 := hinX0_settleGreater
  have hl : lv_has ls 3 [(0, .ref (a 0)), (1, .ref (a 7)), (2, .int (nI k))] := hl
  refine lv_aload_n hx hb dX0_settleGreater_0 rfl (lv_at hl 1 rfl) ?_
  refine lv_iload_n hx hb dX0_settleGreater_1 rfl (lv_at hl 2 rfl) ?_
  refine lv_aload_n hx hb dX0_settleGreater_2 rfl (lv_at hl 1 rfl) ?_
  refine lv_aload_n hx hb dX0_settleGreater_3 rfl (lv_at hl 0 rfl) ?_
  refine g_get (σ := σ) hx hb hts hts0 hown hK hP 7 (by decide) (by decide +kernel) rfl rfl dX0_settleGreater_4 ?_
  refine lv_iload_n hx hb dX0_settleGreater_7 rfl (lv_at hl 2 rfl) ?_
  refine g_at S gX0_settleGreater_X0_at hK hP 3 rfl (by decide) (v := nI ((glf σ) k)) (vp_in_nI (by omega) (by decide)) (by rw [nI_clamp (by omega)]) hl.1 (Nat.le_of_ble_eq_true rfl) ⟨Nat.zero_le _, Nat.zero_le _⟩ ⟨Nat.le_of_ble_eq_true rfl, Nat.le_of_ble_eq_true rfl⟩ dX0_settleGreater_8 ?_
  refine g_at S gX0_settleGreater_X0_at hK hP 7 rfl (by decide) (v := (gsu σ) ((glf σ) k)) (vp_in_nI (by omega) (by decide)) (by rw [nI_clamp (by omega)]) hl.1 (Nat.le_of_ble_eq_true rfl) ⟨Nat.zero_le _, Nat.zero_le _⟩ ⟨Nat.le_of_ble_eq_true rfl, Nat.le_of_ble_eq_true rfl⟩ dX0_settleGreater_11 ?_
  refine lv_aload_n hx hb dX0_settleGreater_14 rfl (lv_at hl 1 rfl) ?_
  refine lv_aload_n hx hb dX0_settleGreater_15 rfl (lv_at hl 0 rfl) ?_
  refine g_get (σ := σ) hx hb hts hts0 hown hK hP 8 (by decide) (by decide +kernel) rfl rfl dX0_settleGreater_16 ?_
  refine lv_iload_n hx hb dX0_settleGreater_19 rfl (lv_at hl 2 rfl) ?_
  refine g_at S gX0_settleGreater_X0_at hK hP 4 rfl (by decide) (v := nI ((grt σ) k)) (vp_in_nI (by omega) (by decide)) (by rw [nI_clamp (by omega)]) hl.1 (Nat.le_of_ble_eq_true rfl) ⟨Nat.zero_le _, Nat.zero_le _⟩ ⟨Nat.le_of_ble_eq_true rfl, Nat.le_of_ble_eq_true rfl⟩ dX0_settleGreater_20 ?_
  refine g_at S gX0_settleGreater_X0_at hK hP 7 rfl (by decide) (v := (gsu σ) ((grt σ) k)) (vp_in_nI (by omega) (by decide)) (by rw [nI_clamp (by omega)]) hl.1 (Nat.le_of_ble_eq_true rfl) ⟨Nat.zero_le _, Nat.zero_le _⟩ ⟨Nat.le_of_ble_eq_true rfl, Nat.le_of_ble_eq_true rfl⟩ dX0_settleGreater_23 ?_
  refine g_max hx hb (hml.trans hl.1.symm) hown (hts (.methodLink RX0 269 Lib.Math.max.name) (by decide +kernel)) (hts (.static Lib.Math.max.name) (by decide +kernel)) (hts (.initialized "java/lang/Math") (by decide +kernel)) (hts (.code Lib.Math.max.name Lib.Math.max.code 2 (some .int)) (by decide +kernel)) (Nat.le_of_ble_eq_true rfl) (Nat.le_of_ble_eq_true rfl) ⟨Nat.zero_le _, Nat.zero_le _⟩ dX0_settleGreater_26 ?_
  refine g_put S gX0_settleGreater_X0_put hK hP hD hS hA 7 rfl (by decide) (f' := (upd ((gsu σ)) k (imx ((gsu σ) ((glf σ) k)) ((gsu σ) ((grt σ) k))))) (vp_in_nI (by omega) (by decide)) (by rw [nI_clamp (by omega)]) hl.1 (Nat.le_of_ble_eq_true rfl) ⟨Nat.zero_le _, Nat.zero_le _⟩ ⟨Nat.le_of_ble_eq_true rfl, Nat.le_of_ble_eq_true rfl⟩ dX0_settleGreater_29 (fun H locs hP hD hS => ?_)
  have hP : gP E (gW E a (gn σ, gk σ, gc σ, gs σ, ge σ, glf σ, grt σ, gst σ, gpc σ, gpf σ, glo σ, ghi σ, gwt σ, ggr σ, upd ((gsu σ)) k (imx ((gsu σ) ((glf σ) k)) ((gsu σ) ((grt σ) k))), gho σ, ghs σ, grb σ)) H := hP
  have hD : va_D (va_A (gW E a σ) s.heap.size) (gW E a (gn σ, gk σ, gc σ, gs σ, ge σ, glf σ, grt σ, gst σ, gpc σ, gpf σ, glo σ, ghi σ, gwt σ, ggr σ, upd ((gsu σ)) k (imx ((gsu σ) ((glf σ) k)) ((gsu σ) ((grt σ) k))), gho σ, ghs σ, grb σ)) := hD
  exact W.vret hx hb hr (fun t ht hW => ⟨⟨(), rfl, trivial, by show gP E _ t.heap; rw [ht]; exact hP⟩, hS.F ht⟩) hS.2.2 dX0_settleGreater_32
set_option maxHeartbeats 4000000 in
set_option maxRecDepth 100000 in
theorem c_sg_ho (l : Launch) (E : GE) (a : Nat → Nat) (σ : GS) (sz : Nat) (k : Nat) (hk : k < 40) (t1 : glf σ k < 40) (t2 : grt σ k < 40) : Met l yX0_settleGreater wsX0_settleGreater { frames := 1, cells := 0, slots := 0, locals := 22 } (va_Pc [.ref (a 0), .ref (a 8), .int (nI k)] (gBw E sz (gW E a σ))) (gQv E (gW E a σ) (gW E a ((gn σ, gk σ, gc σ, gs σ, ge σ, glf σ, grt σ, gst σ, gpc σ, gpf σ, glo σ, ghi σ, gwt σ, ggr σ, gsu σ, gGr1 (gho σ) σ k, ghs σ, grb σ))) sz) 0 0 (va_A (gW E a σ) sz) := by
  refine w_met (cc := cX0_settleGreater) (maxL := 3) (ret := none) (by decide) rfl (Nat.le_of_ble_eq_true rfl) ?_
  intro p e s m below meth c ls S hr hlocks hname hB hl
  obtain ⟨hsz, hP, hK, hD0⟩ := hB
  subst hsz
  have hD := hD0.self (sz := s.heap.size)
  have hA : ∀ q : Nat, s.heap.size ≤ q → va_A (gW E a σ) s.heap.size q := fun q h => Or.inr h
  have hS : va_S (va_A (gW E a σ) s.heap.size) s.heap s.heap [] := va_S.rf
  obtain ⟨hx, hb, hml, hown, hts⟩ := id S
  have hts0 := hinX0_settleGreater
  have hl : lv_has ls 3 [(0, .ref (a 0)), (1, .ref (a 8)), (2, .int (nI k))] := hl
  refine lv_aload_n hx hb dX0_settleGreater_0 rfl (lv_at hl 1 rfl) ?_
  refine lv_iload_n hx hb dX0_settleGreater_1 rfl (lv_at hl 2 rfl) ?_
  refine lv_aload_n hx hb dX0_settleGreater_2 rfl (lv_at hl 1 rfl) ?_
  refine lv_aload_n hx hb dX0_settleGreater_3 rfl (lv_at hl 0 rfl) ?_
  refine g_get (σ := σ) hx hb hts hts0 hown hK hP 7 (by decide) (by decide +kernel) rfl rfl dX0_settleGreater_4 ?_
  refine lv_iload_n hx hb dX0_settleGreater_7 rfl (lv_at hl 2 rfl) ?_
  refine g_at S gX0_settleGreater_X0_at hK hP 3 rfl (by decide) (v := nI ((glf σ) k)) (vp_in_nI (by omega) (by decide)) (by rw [nI_clamp (by omega)]) hl.1 (Nat.le_of_ble_eq_true rfl) ⟨Nat.zero_le _, Nat.zero_le _⟩ ⟨Nat.le_of_ble_eq_true rfl, Nat.le_of_ble_eq_true rfl⟩ dX0_settleGreater_8 ?_
  refine g_at S gX0_settleGreater_X0_at hK hP 8 rfl (by decide) (v := (gho σ) ((glf σ) k)) (vp_in_nI (by omega) (by decide)) (by rw [nI_clamp (by omega)]) hl.1 (Nat.le_of_ble_eq_true rfl) ⟨Nat.zero_le _, Nat.zero_le _⟩ ⟨Nat.le_of_ble_eq_true rfl, Nat.le_of_ble_eq_true rfl⟩ dX0_settleGreater_11 ?_
  refine lv_aload_n hx hb dX0_settleGreater_14 rfl (lv_at hl 1 rfl) ?_
  refine lv_aload_n hx hb dX0_settleGreater_15 rfl (lv_at hl 0 rfl) ?_
  refine g_get (σ := σ) hx hb hts hts0 hown hK hP 8 (by decide) (by decide +kernel) rfl rfl dX0_settleGreater_16 ?_
  refine lv_iload_n hx hb dX0_settleGreater_19 rfl (lv_at hl 2 rfl) ?_
  refine g_at S gX0_settleGreater_X0_at hK hP 4 rfl (by decide) (v := nI ((grt σ) k)) (vp_in_nI (by omega) (by decide)) (by rw [nI_clamp (by omega)]) hl.1 (Nat.le_of_ble_eq_true rfl) ⟨Nat.zero_le _, Nat.zero_le _⟩ ⟨Nat.le_of_ble_eq_true rfl, Nat.le_of_ble_eq_true rfl⟩ dX0_settleGreater_20 ?_
  refine g_at S gX0_settleGreater_X0_at hK hP 8 rfl (by decide) (v := (gho σ) ((grt σ) k)) (vp_in_nI (by omega) (by decide)) (by rw [nI_clamp (by omega)]) hl.1 (Nat.le_of_ble_eq_true rfl) ⟨Nat.zero_le _, Nat.zero_le _⟩ ⟨Nat.le_of_ble_eq_true rfl, Nat.le_of_ble_eq_true rfl⟩ dX0_settleGreater_23 ?_
  refine g_max hx hb (hml.trans hl.1.symm) hown (hts (.methodLink RX0 269 Lib.Math.max.name) (by decide +kernel)) (hts (.static Lib.Math.max.name) (by decide +kernel)) (hts (.initialized "java/lang/Math") (by decide +kernel)) (hts (.code Lib.Math.max.name Lib.Math.max.code 2 (some .int)) (by decide +kernel)) (Nat.le_of_ble_eq_true rfl) (Nat.le_of_ble_eq_true rfl) ⟨Nat.zero_le _, Nat.zero_le _⟩ dX0_settleGreater_26 ?_
  refine g_put S gX0_settleGreater_X0_put hK hP hD hS hA 8 rfl (by decide) (f' := (upd ((gho σ)) k (imx ((gho σ) ((glf σ) k)) ((gho σ) ((grt σ) k))))) (vp_in_nI (by omega) (by decide)) (by rw [nI_clamp (by omega)]) hl.1 (Nat.le_of_ble_eq_true rfl) ⟨Nat.zero_le _, Nat.zero_le _⟩ ⟨Nat.le_of_ble_eq_true rfl, Nat.le_of_ble_eq_true rfl⟩ dX0_settleGreater_29 (fun H locs hP hD hS => ?_)
  have hP : gP E (gW E a (gn σ, gk σ, gc σ, gs σ, ge σ, glf σ, grt σ, gst σ, gpc σ, gpf σ, glo σ, ghi σ, gwt σ, ggr σ, gsu σ, upd ((gho σ)) k (imx ((gho σ) ((glf σ) k)) ((gho σ) ((grt σ) k))), ghs σ, grb σ)) H := hP
  have hD : va_D (va_A (gW E a σ) s.heap.size) (gW E a (gn σ, gk σ, gc σ, gs σ, ge σ, glf σ, grt σ, gst σ, gpc σ, gpf σ, glo σ, ghi σ, gwt σ, ggr σ, gsu σ, upd ((gho σ)) k (imx ((gho σ) ((glf σ) k)) ((gho σ) ((grt σ) k))), ghs σ, grb σ)) := hD
  exact W.vret hx hb hr (fun t ht hW => ⟨⟨(), rfl, trivial, by show gP E _ t.heap; rw [ht]; exact hP⟩, hS.F ht⟩) hS.2.2 dX0_settleGreater_32
set_option maxHeartbeats 4000000 in
set_option maxRecDepth 100000 in
theorem c_sg_hs (l : Launch) (E : GE) (a : Nat → Nat) (σ : GS) (sz : Nat) (k : Nat) (hk : k < 40) (t1 : glf σ k < 40) (t2 : grt σ k < 40) : Met l yX0_settleGreater wsX0_settleGreater { frames := 1, cells := 0, slots := 0, locals := 22 } (va_Pc [.ref (a 0), .ref (a 9), .int (nI k)] (gBw E sz (gW E a σ))) (gQv E (gW E a σ) (gW E a ((gn σ, gk σ, gc σ, gs σ, ge σ, glf σ, grt σ, gst σ, gpc σ, gpf σ, glo σ, ghi σ, gwt σ, ggr σ, gsu σ, gho σ, gGr1 (ghs σ) σ k, grb σ))) sz) 0 0 (va_A (gW E a σ) sz) := by
  refine w_met (cc := cX0_settleGreater) (maxL := 3) (ret := none) (by decide) rfl (Nat.le_of_ble_eq_true rfl) ?_
  intro p e s m below meth c ls S hr hlocks hname hB hl
  obtain ⟨hsz, hP, hK, hD0⟩ := hB
  subst hsz
  have hD := hD0.self (sz := s.heap.size)
  have hA : ∀ q : Nat, s.heap.size ≤ q → va_A (gW E a σ) s.heap.size q := fun q h => Or.inr h
  have hS : va_S (va_A (gW E a σ) s.heap.size) s.heap s.heap [] := va_S.rf
  obtain ⟨hx, hb, hml, hown, hts⟩ := id S
  have hts0 := hinX0_settleGreater
  have hl : lv_has ls 3 [(0, .ref (a 0)), (1, .ref (a 9)), (2, .int (nI k))] := hl
  refine lv_aload_n hx hb dX0_settleGreater_0 rfl (lv_at hl 1 rfl) ?_
  refine lv_iload_n hx hb dX0_settleGreater_1 rfl (lv_at hl 2 rfl) ?_
  refine lv_aload_n hx hb dX0_settleGreater_2 rfl (lv_at hl 1 rfl) ?_
  refine lv_aload_n hx hb dX0_settleGreater_3 rfl (lv_at hl 0 rfl) ?_
  refine g_get (σ := σ) hx hb hts hts0 hown hK hP 7 (by decide) (by decide +kernel) rfl rfl dX0_settleGreater_4 ?_
  refine lv_iload_n hx hb dX0_settleGreater_7 rfl (lv_at hl 2 rfl) ?_
  refine g_at S gX0_settleGreater_X0_at hK hP 3 rfl (by decide) (v := nI ((glf σ) k)) (vp_in_nI (by omega) (by decide)) (by rw [nI_clamp (by omega)]) hl.1 (Nat.le_of_ble_eq_true rfl) ⟨Nat.zero_le _, Nat.zero_le _⟩ ⟨Nat.le_of_ble_eq_true rfl, Nat.le_of_ble_eq_true rfl⟩ dX0_settleGreater_8 ?_
  refine g_at S gX0_settleGreater_X0_at hK hP 9 rfl (by decide) (v := (ghs σ) ((glf σ) k)) (vp_in_nI (by omega) (by decide)) (by rw [nI_clamp (by omega)]) hl.1 (Nat.le_of_ble_eq_true rfl) ⟨Nat.zero_le _, Nat.zero_le _⟩ ⟨Nat.le_of_ble_eq_true rfl, Nat.le_of_ble_eq_true rfl⟩ dX0_settleGreater_11 ?_
  refine lv_aload_n hx hb dX0_settleGreater_14 rfl (lv_at hl 1 rfl) ?_
  refine lv_aload_n hx hb dX0_settleGreater_15 rfl (lv_at hl 0 rfl) ?_
  refine g_get (σ := σ) hx hb hts hts0 hown hK hP 8 (by decide) (by decide +kernel) rfl rfl dX0_settleGreater_16 ?_
  refine lv_iload_n hx hb dX0_settleGreater_19 rfl (lv_at hl 2 rfl) ?_
  refine g_at S gX0_settleGreater_X0_at hK hP 4 rfl (by decide) (v := nI ((grt σ) k)) (vp_in_nI (by omega) (by decide)) (by rw [nI_clamp (by omega)]) hl.1 (Nat.le_of_ble_eq_true rfl) ⟨Nat.zero_le _, Nat.zero_le _⟩ ⟨Nat.le_of_ble_eq_true rfl, Nat.le_of_ble_eq_true rfl⟩ dX0_settleGreater_20 ?_
  refine g_at S gX0_settleGreater_X0_at hK hP 9 rfl (by decide) (v := (ghs σ) ((grt σ) k)) (vp_in_nI (by omega) (by decide)) (by rw [nI_clamp (by omega)]) hl.1 (Nat.le_of_ble_eq_true rfl) ⟨Nat.zero_le _, Nat.zero_le _⟩ ⟨Nat.le_of_ble_eq_true rfl, Nat.le_of_ble_eq_true rfl⟩ dX0_settleGreater_23 ?_
  refine g_max hx hb (hml.trans hl.1.symm) hown (hts (.methodLink RX0 269 Lib.Math.max.name) (by decide +kernel)) (hts (.static Lib.Math.max.name) (by decide +kernel)) (hts (.initialized "java/lang/Math") (by decide +kernel)) (hts (.code Lib.Math.max.name Lib.Math.max.code 2 (some .int)) (by decide +kernel)) (Nat.le_of_ble_eq_true rfl) (Nat.le_of_ble_eq_true rfl) ⟨Nat.zero_le _, Nat.zero_le _⟩ dX0_settleGreater_26 ?_
  refine g_put S gX0_settleGreater_X0_put hK hP hD hS hA 9 rfl (by decide) (f' := (upd ((ghs σ)) k (imx ((ghs σ) ((glf σ) k)) ((ghs σ) ((grt σ) k))))) (vp_in_nI (by omega) (by decide)) (by rw [nI_clamp (by omega)]) hl.1 (Nat.le_of_ble_eq_true rfl) ⟨Nat.zero_le _, Nat.zero_le _⟩ ⟨Nat.le_of_ble_eq_true rfl, Nat.le_of_ble_eq_true rfl⟩ dX0_settleGreater_29 (fun H locs hP hD hS => ?_)
  have hP : gP E (gW E a (gn σ, gk σ, gc σ, gs σ, ge σ, glf σ, grt σ, gst σ, gpc σ, gpf σ, glo σ, ghi σ, gwt σ, ggr σ, gsu σ, gho σ, upd ((ghs σ)) k (imx ((ghs σ) ((glf σ) k)) ((ghs σ) ((grt σ) k))), grb σ)) H := hP
  have hD : va_D (va_A (gW E a σ) s.heap.size) (gW E a (gn σ, gk σ, gc σ, gs σ, ge σ, glf σ, grt σ, gst σ, gpc σ, gpf σ, glo σ, ghi σ, gwt σ, ggr σ, gsu σ, gho σ, upd ((ghs σ)) k (imx ((ghs σ) ((glf σ) k)) ((ghs σ) ((grt σ) k))), grb σ)) := hD
  exact W.vret hx hb hr (fun t ht hW => ⟨⟨(), rfl, trivial, by show gP E _ t.heap; rw [ht]; exact hP⟩, hS.F ht⟩) hS.2.2 dX0_settleGreater_32
theorem hinX0_settleFork : ∀ w ∈ wsX00, w ∈ wsX0_settleFork := fun w h => List.mem_cons_of_mem _ (List.mem_append_right _ h)
theorem hdX0_settleFork : yX0_settleFork.cls = RX0 ∧ yX0_settleFork.cls ≠ "java/lang/invoke/MethodHandle" ∧ yX0_settleFork.cls ≠ "java/lang/invoke/VarHandle" ∧ (parseMethodDescriptor yX0_settleFork.desc).map (fun d => d.parameters.length) = some 1 := by decide +kernel
set_option maxHeartbeats 4000000 in
set_option maxRecDepth 100000 in
theorem c_settleFork (l : Launch) (E : GE) (a : Nat → Nat) (σ : GS) (sz : Nat) (k : Nat) (hk : k < 40) (t1 : glf σ k < 40) (t2 : grt σ k < 40) : Met l yX0_settleFork wsX0_settleFork { frames := 2, cells := 0, slots := 0, locals := 44 } (va_Pc [.ref (a 0), .int (nI k)] (gBw E sz (gW E a σ))) (gQv E (gW E a σ) (gW E a (gSeF σ k)) sz) 0 0 (va_A (gW E a σ) sz) := by
  refine w_met (cc := cX0_settleFork) (maxL := 2) (ret := none) (by decide) rfl (Nat.le_of_ble_eq_true rfl) ?_
  intro p e s m below meth c ls S hr hlocks hname hB hl
  obtain ⟨hsz, hP, hK, hD0⟩ := hB
  subst hsz
  have hD := hD0.self (sz := s.heap.size)
  have hA : ∀ q : Nat, s.heap.size ≤ q → va_A (gW E a σ) s.heap.size q := fun q h => Or.inr h
  have hS : va_S (va_A (gW E a σ) s.heap.size) s.heap s.heap [] := va_S.rf
  obtain ⟨hx, hb, hml, hown, hts⟩ := id S
  have hts0 := hinX0_settleFork
  have hl : lv_has ls 2 [(0, .ref (a 0)), (1, .int (nI k))] := hl
  refine lv_aload_n hx hb dX0_settleFork_0 rfl (lv_at hl 0 rfl) ?_
  refine lv_aload_n hx hb dX0_settleFork_1 rfl (lv_at hl 0 rfl) ?_
  refine g_get (σ := σ) hx hb hts hts0 hown hK hP 11 (by decide) (by decide +kernel) rfl rfl dX0_settleFork_2 ?_
  refine lv_iload_n hx hb dX0_settleFork_5 rfl (lv_at hl 1 rfl) ?_
  refine g0w (As := [.ref (a 7), .int (nI k)]) (rest := []) (σ' := (gn σ, gk σ, gc σ, gs σ, ge σ, glf σ, grt σ, gst σ, gpc σ, gpf σ, glo σ, ghi σ, gwt σ, ggr σ, gGr1 (gsu σ) σ k, gho σ, ghs σ, grb σ)) S (c_sg_su l E a σ _ k (by omega) t1 t2) (cwV 2 hts gX0_settleFork_X0_settleGreater rfl rfl rfl hdX0_settleGreater ⟨Nat.le_of_ble_eq_true rfl, Nat.le_of_ble_eq_true rfl⟩) hK hP hD hS hA rfl hl.1 rfl (Nat.le_of_ble_eq_true rfl) ⟨Nat.zero_le _, Nat.zero_le _⟩ dX0_settleFork_6 (fun H locs hP hD hS => ?_)
  refine lv_aload_n hx hb dX0_settleFork_9 rfl (lv_at hl 0 rfl) ?_
  refine lv_aload_n hx hb dX0_settleFork_10 rfl (lv_at hl 0 rfl) ?_
  refine g_get (σ := (gn σ, gk σ, gc σ, gs σ, ge σ, glf σ, grt σ, gst σ, gpc σ, gpf σ, glo σ, ghi σ, gwt σ, ggr σ, gGr1 (gsu σ) σ k, gho σ, ghs σ, grb σ)) hx hb hts hts0 hown hK hP 12 (by decide) (by decide +kernel) rfl rfl dX0_settleFork_11 ?_
  refine lv_iload_n hx hb dX0_settleFork_14 rfl (lv_at hl 1 rfl) ?_
  refine g0w (As := [.ref (a 8), .int (nI k)]) (rest := []) (σ' := (gn σ, gk σ, gc σ, gs σ, ge σ, glf σ, grt σ, gst σ, gpc σ, gpf σ, glo σ, ghi σ, gwt σ, ggr σ, gGr1 (gsu σ) σ k, gGr1 (gho σ) σ k, ghs σ, grb σ)) S (c_sg_ho l E a (gn σ, gk σ, gc σ, gs σ, ge σ, glf σ, grt σ, gst σ, gpc σ, gpf σ, glo σ, ghi σ, gwt σ, ggr σ, gGr1 (gsu σ) σ k, gho σ, ghs σ, grb σ) _ k (by omega) t1 t2) (cwV 2 hts gX0_settleFork_X0_settleGreater rfl rfl rfl hdX0_settleGreater ⟨Nat.le_of_ble_eq_true rfl, Nat.le_of_ble_eq_true rfl⟩) hK hP hD hS hA rfl hl.1 rfl (Nat.le_of_ble_eq_true rfl) ⟨Nat.zero_le _, Nat.zero_le _⟩ dX0_settleFork_15 (fun H locs hP hD hS => ?_)
  refine lv_aload_n hx hb dX0_settleFork_18 rfl (lv_at hl 0 rfl) ?_
  refine lv_aload_n hx hb dX0_settleFork_19 rfl (lv_at hl 0 rfl) ?_
  refine g_get (σ := (gn σ, gk σ, gc σ, gs σ, ge σ, glf σ, grt σ, gst σ, gpc σ, gpf σ, glo σ, ghi σ, gwt σ, ggr σ, gGr1 (gsu σ) σ k, gGr1 (gho σ) σ k, ghs σ, grb σ)) hx hb hts hts0 hown hK hP 13 (by decide) (by decide +kernel) rfl rfl dX0_settleFork_20 ?_
  refine lv_iload_n hx hb dX0_settleFork_23 rfl (lv_at hl 1 rfl) ?_
  refine g0w (As := [.ref (a 9), .int (nI k)]) (rest := []) (σ' := (gn σ, gk σ, gc σ, gs σ, ge σ, glf σ, grt σ, gst σ, gpc σ, gpf σ, glo σ, ghi σ, gwt σ, ggr σ, gGr1 (gsu σ) σ k, gGr1 (gho σ) σ k, gGr1 (ghs σ) σ k, grb σ)) S (c_sg_hs l E a (gn σ, gk σ, gc σ, gs σ, ge σ, glf σ, grt σ, gst σ, gpc σ, gpf σ, glo σ, ghi σ, gwt σ, ggr σ, gGr1 (gsu σ) σ k, gGr1 (gho σ) σ k, ghs σ, grb σ) _ k (by omega) t1 t2) (cwV 2 hts gX0_settleFork_X0_settleGreater rfl rfl rfl hdX0_settleGreater ⟨Nat.le_of_ble_eq_true rfl, Nat.le_of_ble_eq_true rfl⟩) hK hP hD hS hA rfl hl.1 rfl (Nat.le_of_ble_eq_true rfl) ⟨Nat.zero_le _, Nat.zero_le _⟩ dX0_settleFork_24 (fun H locs hP hD hS => ?_)
  exact W.vret hx hb hr (fun t ht hW => ⟨⟨(), rfl, trivial, by show gP E _ t.heap; rw [ht]; exact hP⟩, hS.F ht⟩) hS.2.2 dX0_settleFork_27
theorem hinX0_settleForksAfter : ∀ w ∈ wsX00, w ∈ wsX0_settleForksAfter := fun w h => List.mem_cons_of_mem _ (List.mem_append_right _ h)
theorem hdX0_settleForksAfter : yX0_settleForksAfter.cls = RX0 ∧ yX0_settleForksAfter.cls ≠ "java/lang/invoke/MethodHandle" ∧ yX0_settleForksAfter.cls ≠ "java/lang/invoke/VarHandle" ∧ (parseMethodDescriptor yX0_settleForksAfter.desc).map (fun d => d.parameters.length) = some 1 := by decide +kernel
set_option maxHeartbeats 4000000 in
set_option maxRecDepth 100000 in
theorem c_settleForksAfter (l : Launch) (E : GE) (a : Nat → Nat) (σ : GS) (sz : Nat) (hO : GOK σ) (k : Nat) (hk : k < gn σ) : Met l yX0_settleForksAfter wsX0_settleForksAfter { frames := 3, cells := 0, slots := 0, locals := 65 } (va_Pc [.ref (a 0), .int (nI k)] (gBw E sz (gW E a σ))) (gQv E (gW E a σ) (gW E a (gSA σ (k + 1) (gn σ - (k + 1)))) sz) 0 0 (va_A (gW E a σ) sz) := by
  refine w_met (cc := cX0_settleForksAfter) (maxL := 3) (ret := none) (by decide) rfl (Nat.le_of_ble_eq_true rfl) ?_
  intro p e s m below meth c ls S hr hlocks hname hB hl
  obtain ⟨hsz, hP, hK, hD0⟩ := hB
  subst hsz
  have hD := hD0.self (sz := s.heap.size)
  have hA : ∀ q : Nat, s.heap.size ≤ q → va_A (gW E a σ) s.heap.size q := fun q h => Or.inr h
  have hS : va_S (va_A (gW E a σ) s.heap.size) s.heap s.heap [] := va_S.rf
  obtain ⟨hx, hb, hml, hown, hts⟩ := id S
  have tn := hO.1
  have hts0 := hinX0_settleForksAfter
  have hl : lv_has ls 3 [(0, .ref (a 0)), (1, .int (nI k))] := hl
  refine lv_iload_n hx hb dX0_settleForksAfter_0 rfl (lv_at hl 1 rfl) ?_
  refine lv_iconst (v := 1) hx hb dX0_settleForksAfter_1 (by decide) ?_
  refine lv_iadd hx hb dX0_settleForksAfter_2 ?_
  rw [nI_1 k]
  refine lv_istore_n (lv' := [(2, .int (nI (k + 1))), (0, .ref (a 0)), (1, .int (nI k))]) hx hb dX0_settleForksAfter_3 rfl hl (by decide) rfl (fun ls hl => ?_)
  have key : ∀ (d i : Nat) (j : Nat) (s1 : GS) (H : Heap) (locs : List Loc) (ls : Array Slot), i + d = gn σ → s1 = gSA σ (k + 1) j ∧ i = k + 1 + j → gP E (gW E a s1) H → va_S (va_A (gW E a σ) s.heap.size) s.heap H locs → lv_has ls 3 [(2, .int (nI i)), (0, .ref (a 0)), (1, .int (nI k))] → W p l e (headSpec wsX0_settleForksAfter { frames := 3, cells := 0, slots := 0, locals := 65 }).room s m [.ref (a 0), .int (nI k)].toArray below meth c H locs 0 0 (MQ below (gQv E (gW E a σ) (gW E a (gSA σ (k + 1) (gn σ - (k + 1)))) s.heap.size) [.ref (a 0), .int (nI k)].toArray s 0 0 (va_A (gW E a σ) s.heap.size)) (F0 m 4 ls []) := by
    intro d
    induction d with
    | zero =>
      intro i j s1 H locs ls hi hinv hP hS hl
      have hD : va_D (va_A (gW E a σ) s.heap.size) (gW E a s1) := gW_D hD
      have hq := gSA_same σ (k + 1) j
      rw [← hinv.1] at hq
      obtain ⟨hq1, hq2, hq3⟩ := hq
      have hO1 := hq3 hO
      obtain rfl : i = gn σ := by omega
      refine lv_iload_n hx hb dX0_settleForksAfter_4 rfl (lv_at hl 0 rfl) ?_
      refine lv_aload_n hx hb dX0_settleForksAfter_5 rfl (lv_at hl 1 rfl) ?_
      refine g_get (σ := s1) hx hb hts hts0 hown hK hP 0 (by decide) (by decide +kernel) rfl rfl dX0_settleForksAfter_6 ?_
      refine lv_icmp_ge (tgt := 31) hx hb dX0_settleForksAfter_9 (by decide) (fun _ => ?_) (fun q => absurd ((nI_le (by omega) (by omega))) q)
      exact W.vret hx hb hr (fun t ht hW => ⟨⟨(), rfl, trivial, by show gP E _ t.heap; rw [ht]; rw [show gn σ - (k + 1) = j by omega, ← hinv.1]; exact hP⟩, hS.F ht⟩) hS.2.2 dX0_settleForksAfter_31
    | succ d ih =>
      intro i j s1 H locs ls hi hinv hP hS hl
      have hD : va_D (va_A (gW E a σ) s.heap.size) (gW E a s1) := gW_D hD
      have hq := gSA_same σ (k + 1) j
      rw [← hinv.1] at hq
      obtain ⟨hq1, hq2, hq3⟩ := hq
      have hO1 := hq3 hO
      refine lv_iload_n hx hb dX0_settleForksAfter_4 rfl (lv_at hl 0 rfl) ?_
      refine lv_aload_n hx hb dX0_settleForksAfter_5 rfl (lv_at hl 1 rfl) ?_
      refine g_get (σ := s1) hx hb hts hts0 hown hK hP 0 (by decide) (by decide +kernel) rfl rfl dX0_settleForksAfter_6 ?_
      refine lv_icmp_ge (tgt := 31) hx hb dX0_settleForksAfter_9 (by decide) (fun q => absurd q ((nI_ge (by omega) (by omega)))) (fun _ => ?_)
      refine lv_aload_n hx hb dX0_settleForksAfter_12 rfl (lv_at hl 1 rfl) ?_
      refine lv_iload_n hx hb dX0_settleForksAfter_13 rfl (lv_at hl 0 rfl) ?_
      refine g0i (As := [.int (nI i)]) (rest := []) S (c_holdsExam l E a s1 i (by omega)) (cwV 1 hts gX0_settleForksAfter_X0_holdsExam rfl rfl rfl hdX0_holdsExam ⟨Nat.le_of_ble_eq_true rfl, Nat.le_of_ble_eq_true rfl⟩) hK hP rfl hl.1 rfl (Nat.le_of_ble_eq_true rfl) ⟨Nat.zero_le _, Nat.zero_le _⟩ dX0_settleForksAfter_14 ?_
      refine lv_if_ne (tgt := 25) hx hb dX0_settleForksAfter_17 (by decide) (fun c17 => ?_) (fun c17 => ?_)
      · refine lv_iinc (v := nI (i + 1)) (lv' := [(2, .int (nI (i + 1))), (0, .ref (a 0)), (1, .int (nI k))]) hx hb dX0_settleForksAfter_25 hl (k := 0) rfl (nI_1 i) (by decide) rfl (fun ls hl => ?_)
        refine lv_goto (tgt := 4) hx hb dX0_settleForksAfter_28 (by decide) ?_
        exact ih (i + 1) (j + 1) s1 H locs ls (by omega) ⟨(by first | (rw [gSA, ← hinv.2, ← hinv.1, if_pos (by rw [← hq2]; exact b2i_ne0.mp c17)]) | (rw [gSA, ← hinv.2, ← hinv.1, if_neg (by rw [← hq2, b2i_eq0.mp c17]; decide)])), by omega⟩ hP hS (lv_sub hl [0, 1, 2] rfl)
      · refine lv_aload_n hx hb dX0_settleForksAfter_20 rfl (lv_at hl 1 rfl) ?_
        refine lv_iload_n hx hb dX0_settleForksAfter_21 rfl (lv_at hl 0 rfl) ?_
        refine g0w (As := [.int (nI i)]) (rest := []) (σ' := gSeF s1 i) S (c_settleFork l E a s1 _ i (by omega) (hO1.2.2.1 _) (hO1.2.2.2.1 _)) (cwV 1 hts gX0_settleForksAfter_X0_settleFork rfl rfl rfl hdX0_settleFork ⟨Nat.le_of_ble_eq_true rfl, Nat.le_of_ble_eq_true rfl⟩) hK hP hD hS hA rfl hl.1 rfl (Nat.le_of_ble_eq_true rfl) ⟨Nat.zero_le _, Nat.zero_le _⟩ dX0_settleForksAfter_22 (fun H locs hP hD hS => ?_)
        refine lv_iinc (v := nI (i + 1)) (lv' := [(2, .int (nI (i + 1))), (0, .ref (a 0)), (1, .int (nI k))]) hx hb dX0_settleForksAfter_25 hl (k := 0) rfl (nI_1 i) (by decide) rfl (fun ls hl => ?_)
        refine lv_goto (tgt := 4) hx hb dX0_settleForksAfter_28 (by decide) ?_
        exact ih (i + 1) (j + 1) ((gSeF s1 i)) H locs ls (by omega) ⟨(by first | (rw [gSA, ← hinv.2, ← hinv.1, if_pos (by rw [← hq2]; exact b2i_ne0.mp c17)]) | (rw [gSA, ← hinv.2, ← hinv.1, if_neg (by rw [← hq2, b2i_eq0.mp c17]; decide)])), by omega⟩ hP hS (lv_sub hl [0, 1, 2] rfl)
  exact key (gn σ - (k + 1)) (k + 1) 0 σ _ _ ls (by omega) ⟨rfl, by omega⟩ hP hS (lv_sub hl [0, 1, 2] rfl)
theorem hdX0_requireWeight : yX0_requireWeight.cls = RX0 ∧ yX0_requireWeight.cls ≠ "java/lang/invoke/MethodHandle" ∧ yX0_requireWeight.cls ≠ "java/lang/invoke/VarHandle" ∧ (parseMethodDescriptor yX0_requireWeight.desc).map (fun d => d.parameters.length) = some 1 := by decide +kernel
set_option maxHeartbeats 4000000 in
set_option maxRecDepth 100000 in
theorem c_requireWeight (l : Launch) (E : GE) (w : Int32) (h1 : ¬ w < 1) (h9 : w ≤ nI 9) : Met l yX0_requireWeight wsX0_requireWeight rmZ (va_Pc [.int w] (gB E [])) (va_Sv (fun _ => True)) 0 0 (fun _ => False) := by
  refine w_met (cc := cX0_requireWeight) (maxL := 1) (ret := none) (by decide) rfl (Nat.le_of_ble_eq_true rfl) ?_
  intro p e s m below meth c ls S hr hlocks hname hB hl
  obtain ⟨hx, hb, hml, hown, hts⟩ := id S
  have hl : lv_has ls 1 [(0, .int w)] := hl
  refine lv_iload_n hx hb dX0_requireWeight_0 rfl (lv_at hl 0 rfl) ?_
  refine lv_iconst (v := 1) hx hb dX0_requireWeight_1 (by decide) ?_
  refine lv_icmp_lt (tgt := 11) hx hb dX0_requireWeight_2 (by decide) (fun q => absurd q h1) (fun _ => ?_)
  refine lv_iload_n hx hb dX0_requireWeight_5 rfl (lv_at hl 0 rfl) ?_
  refine lv_bipush (v := nI 9) hx hb dX0_requireWeight_6 (by decide) ?_
  refine lv_icmp_le (tgt := 22) hx hb dX0_requireWeight_8 (by decide) (fun _ => ?_) (fun q => absurd h9 q)
  exact W.vret hx hb hr (fun t ht hW => ⟨rfl, trivial, ht⟩) (fun _ h => nomatch h) dX0_requireWeight_22
theorem hinX0_walk : ∀ w ∈ wsX00, w ∈ wsX0_walk := fun w h => List.mem_cons_of_mem _ (List.mem_append_right _ h)
theorem hdX0_walk : yX0_walk.cls = RX0 ∧ yX0_walk.cls ≠ "java/lang/invoke/MethodHandle" ∧ yX0_walk.cls ≠ "java/lang/invoke/VarHandle" ∧ (parseMethodDescriptor yX0_walk.desc).map (fun d => d.parameters.length) = some 2 := by decide +kernel
set_option maxHeartbeats 4000000 in
set_option maxRecDepth 100000 in
theorem c_walk (l : Launch) (E : GE) (a : Nat → Nat) (σ : GS) (sz : Nat) (hO : GOK σ) (k : Nat) (hk : k < 8) (hc : gpc σ k < 40) (b : Bool) : Met l yX0_walk wsX0_walk { frames := 2, cells := 0, slots := 0, locals := 43 } (va_Pc [.ref (a 0), .int (nI k), .int (b2i b)] (gBw E sz (gW E a σ))) (gQv E (gW E a σ) (gW E a (gWalk σ k b)) sz) 0 0 (va_A (gW E a σ) sz) := by
  refine w_met (cc := cX0_walk) (maxL := 5) (ret := none) (by decide) rfl (Nat.le_of_ble_eq_true rfl) ?_
  intro p e s m below meth c ls S hr hlocks hname hB hl
  obtain ⟨hsz, hP, hK, hD0⟩ := hB
  subst hsz
  have hD := hD0.self (sz := s.heap.size)
  have hA : ∀ q : Nat, s.heap.size ≤ q → va_A (gW E a σ) s.heap.size q := fun q h => Or.inr h
  have hS : va_S (va_A (gW E a σ) s.heap.size) s.heap s.heap [] := va_S.rf
  obtain ⟨hx, hb, hml, hown, hts⟩ := id S
  have t1 := hO.2.2.2.2.1 k
  have hts0 := hinX0_walk
  have hl : lv_has ls 5 [(0, .ref (a 0)), (1, .int (nI k)), (2, .int (b2i b))] := hl
  refine lv_aload_n hx hb dX0_walk_0 rfl (lv_at hl 0 rfl) ?_
  refine g_get (σ := σ) hx hb hts hts0 hown hK hP 15 (by decide) (by decide +kernel) rfl rfl dX0_walk_1 ?_
  refine lv_iload_n hx hb dX0_walk_4 rfl (lv_at hl 1 rfl) ?_
  refine g_at S gX0_walk_X0_at hK hP 11 rfl (by decide) (v := nI ((gst σ) k)) (vp_in_nI (by omega) (by decide)) (by rw [nI_clamp (by omega)]) hl.1 (Nat.le_of_ble_eq_true rfl) ⟨Nat.zero_le _, Nat.zero_le _⟩ ⟨Nat.le_of_ble_eq_true rfl, Nat.le_of_ble_eq_true rfl⟩ dX0_walk_5 ?_
  refine lv_istore_n (lv' := [(3, .int (nI ((gst σ) k))), (0, .ref (a 0)), (1, .int (nI k)), (2, .int (b2i b))]) hx hb dX0_walk_8 rfl hl (by decide) rfl (fun ls hl => ?_)
  refine lv_aload_n hx hb dX0_walk_9 rfl (lv_at hl 1 rfl) ?_
  refine g_get (σ := σ) hx hb hts hts0 hown hK hP 16 (by decide) (by decide +kernel) rfl rfl dX0_walk_10 ?_
  refine lv_iload_n hx hb dX0_walk_13 rfl (lv_at hl 2 rfl) ?_
  refine g_at S gX0_walk_X0_at hK hP 12 rfl (by decide) (v := nI ((gpc σ) k)) (vp_in_nI (by omega) (by decide)) (by rw [nI_clamp (by omega)]) hl.1 (Nat.le_of_ble_eq_true rfl) ⟨Nat.zero_le _, Nat.zero_le _⟩ ⟨Nat.le_of_ble_eq_true rfl, Nat.le_of_ble_eq_true rfl⟩ dX0_walk_14 ?_
  refine lv_istore (lv' := [(4, .int (nI ((gpc σ) k))), (3, .int (nI ((gst σ) k))), (0, .ref (a 0)), (1, .int (nI k)), (2, .int (b2i b))]) hx hb dX0_walk_17 hl (by decide) rfl (fun ls hl => ?_)
  refine lv_aload_n hx hb dX0_walk_19 rfl (lv_at hl 2 rfl) ?_
  refine g_get (σ := σ) hx hb hts hts0 hown hK hP 17 (by decide) (by decide +kernel) rfl rfl dX0_walk_20 ?_
  refine lv_iload_n hx hb dX0_walk_23 rfl (lv_at hl 3 rfl) ?_
  refine lv_bipush (v := nI 40) hx hb dX0_walk_24 (by decide) ?_
  refine lv_imul hx hb dX0_walk_26 ?_
  rw [pk_mul k 40]
  refine lv_iload hx hb dX0_walk_27 (lv_at hl 0 rfl) ?_
  refine lv_iadd hx hb dX0_walk_29 ?_
  rw [nI_add (k * 40) ((gpc σ) k)]
  refine lv_iload_n hx hb dX0_walk_30 rfl (lv_at hl 1 rfl) ?_
  refine g_put S gX0_walk_X0_put hK hP hD hS hA 13 rfl (by decide) (f' := (fun z9 => nI (va_up ((gpf σ)) ((k * 40) + ((gpc σ) k)) ((gst σ) k) z9))) (vp_in_nI (by omega) (by decide)) (by rw [nI_clamp (by omega)]; exact n_upd _ _ _) hl.1 (Nat.le_of_ble_eq_true rfl) ⟨Nat.zero_le _, Nat.zero_le _⟩ ⟨Nat.le_of_ble_eq_true rfl, Nat.le_of_ble_eq_true rfl⟩ dX0_walk_31 (fun H locs hP hD hS => ?_)
  have hP : gP E (gW E a (gn σ, gk σ, gc σ, gs σ, ge σ, glf σ, grt σ, gst σ, gpc σ, va_up ((gpf σ)) ((k * 40) + ((gpc σ) k)) ((gst σ) k), glo σ, ghi σ, gwt σ, ggr σ, gsu σ, gho σ, ghs σ, grb σ)) H := hP
  have hD : va_D (va_A (gW E a σ) s.heap.size) (gW E a (gn σ, gk σ, gc σ, gs σ, ge σ, glf σ, grt σ, gst σ, gpc σ, va_up ((gpf σ)) ((k * 40) + ((gpc σ) k)) ((gst σ) k), glo σ, ghi σ, gwt σ, ggr σ, gsu σ, gho σ, ghs σ, grb σ)) := hD
  refine lv_aload_n hx hb dX0_walk_34 rfl (lv_at hl 2 rfl) ?_
  refine g_get (σ := (gn σ, gk σ, gc σ, gs σ, ge σ, glf σ, grt σ, gst σ, gpc σ, va_up ((gpf σ)) ((k * 40) + ((gpc σ) k)) ((gst σ) k), glo σ, ghi σ, gwt σ, ggr σ, gsu σ, gho σ, ghs σ, grb σ)) hx hb hts hts0 hown hK hP 16 (by decide) (by decide +kernel) rfl rfl dX0_walk_35 ?_
  refine lv_iload_n hx hb dX0_walk_38 rfl (lv_at hl 3 rfl) ?_
  refine lv_iload hx hb dX0_walk_39 (lv_at hl 0 rfl) ?_
  refine lv_iconst (v := 1) hx hb dX0_walk_41 (by decide) ?_
  refine lv_iadd hx hb dX0_walk_42 ?_
  rw [nI_1 ((gpc σ) k)]
  refine g_put S gX0_walk_X0_put hK hP hD hS hA 12 rfl (by decide) (f' := (fun z9 => nI (va_up ((gpc σ)) k (((gpc σ) k) + 1) z9))) (vp_in_nI (by omega) (by decide)) (by rw [nI_clamp (by omega)]; exact n_upd _ _ _) hl.1 (Nat.le_of_ble_eq_true rfl) ⟨Nat.zero_le _, Nat.zero_le _⟩ ⟨Nat.le_of_ble_eq_true rfl, Nat.le_of_ble_eq_true rfl⟩ dX0_walk_43 (fun H locs hP hD hS => ?_)
  have hP : gP E (gW E a (gn σ, gk σ, gc σ, gs σ, ge σ, glf σ, grt σ, gst σ, va_up ((gpc σ)) k (((gpc σ) k) + 1), va_up ((gpf σ)) ((k * 40) + ((gpc σ) k)) ((gst σ) k), glo σ, ghi σ, gwt σ, ggr σ, gsu σ, gho σ, ghs σ, grb σ)) H := hP
  have hD : va_D (va_A (gW E a σ) s.heap.size) (gW E a (gn σ, gk σ, gc σ, gs σ, ge σ, glf σ, grt σ, gst σ, va_up ((gpc σ)) k (((gpc σ) k) + 1), va_up ((gpf σ)) ((k * 40) + ((gpc σ) k)) ((gst σ) k), glo σ, ghi σ, gwt σ, ggr σ, gsu σ, gho σ, ghs σ, grb σ)) := hD
  refine lv_aload_n hx hb dX0_walk_46 rfl (lv_at hl 2 rfl) ?_
  refine g_get (σ := (gn σ, gk σ, gc σ, gs σ, ge σ, glf σ, grt σ, gst σ, va_up ((gpc σ)) k (((gpc σ) k) + 1), va_up ((gpf σ)) ((k * 40) + ((gpc σ) k)) ((gst σ) k), glo σ, ghi σ, gwt σ, ggr σ, gsu σ, gho σ, ghs σ, grb σ)) hx hb hts hts0 hown hK hP 15 (by decide) (by decide +kernel) rfl rfl dX0_walk_47 ?_
  refine lv_iload_n hx hb dX0_walk_50 rfl (lv_at hl 3 rfl) ?_
  refine lv_aload_n hx hb dX0_walk_51 rfl (lv_at hl 2 rfl) ?_
  refine lv_iload_n hx hb dX0_walk_52 rfl (lv_at hl 1 rfl) ?_
  refine lv_iload_n hx hb dX0_walk_53 rfl (lv_at hl 4 rfl) ?_
  refine g0i (As := [.int (nI ((gst σ) k)), .int (b2i b)]) (rest := [.int (nI k), .ref (a 11)]) S (c_pathFrom l E a (gn σ, gk σ, gc σ, gs σ, ge σ, glf σ, grt σ, gst σ, va_up ((gpc σ)) k (((gpc σ) k) + 1), va_up ((gpf σ)) ((k * 40) + ((gpc σ) k)) ((gst σ) k), glo σ, ghi σ, gwt σ, ggr σ, gsu σ, gho σ, ghs σ, grb σ) ((gst σ) k) (by omega) b) (cwV 2 hts gX0_walk_X0_pathFrom rfl rfl rfl hdX0_pathFrom ⟨Nat.le_of_ble_eq_true rfl, Nat.le_of_ble_eq_true rfl⟩) hK hP rfl hl.1 rfl (Nat.le_of_ble_eq_true rfl) ⟨Nat.zero_le _, Nat.zero_le _⟩ dX0_walk_54 ?_
  refine g_put S gX0_walk_X0_put hK hP hD hS hA 11 rfl (by decide) (f' := (fun z9 => nI (va_up ((gst σ)) k (gTo (gn σ, gk σ, gc σ, gs σ, ge σ, glf σ, grt σ, gst σ, va_up ((gpc σ)) k (((gpc σ) k) + 1), va_up ((gpf σ)) ((k * 40) + ((gpc σ) k)) ((gst σ) k), glo σ, ghi σ, gwt σ, ggr σ, gsu σ, gho σ, ghs σ, grb σ) ((gst σ) k) b) z9))) (vp_in_nI (by omega) (by decide)) (by rw [nI_clamp (by omega)]; exact n_upd _ _ _) hl.1 (Nat.le_of_ble_eq_true rfl) ⟨Nat.zero_le _, Nat.zero_le _⟩ ⟨Nat.le_of_ble_eq_true rfl, Nat.le_of_ble_eq_true rfl⟩ dX0_walk_57 (fun H locs hP hD hS => ?_)
  have hP : gP E (gW E a (gn σ, gk σ, gc σ, gs σ, ge σ, glf σ, grt σ, va_up ((gst σ)) k (gTo (gn σ, gk σ, gc σ, gs σ, ge σ, glf σ, grt σ, gst σ, va_up ((gpc σ)) k (((gpc σ) k) + 1), va_up ((gpf σ)) ((k * 40) + ((gpc σ) k)) ((gst σ) k), glo σ, ghi σ, gwt σ, ggr σ, gsu σ, gho σ, ghs σ, grb σ) ((gst σ) k) b), va_up ((gpc σ)) k (((gpc σ) k) + 1), va_up ((gpf σ)) ((k * 40) + ((gpc σ) k)) ((gst σ) k), glo σ, ghi σ, gwt σ, ggr σ, gsu σ, gho σ, ghs σ, grb σ)) H := hP
  have hD : va_D (va_A (gW E a σ) s.heap.size) (gW E a (gn σ, gk σ, gc σ, gs σ, ge σ, glf σ, grt σ, va_up ((gst σ)) k (gTo (gn σ, gk σ, gc σ, gs σ, ge σ, glf σ, grt σ, gst σ, va_up ((gpc σ)) k (((gpc σ) k) + 1), va_up ((gpf σ)) ((k * 40) + ((gpc σ) k)) ((gst σ) k), glo σ, ghi σ, gwt σ, ggr σ, gsu σ, gho σ, ghs σ, grb σ) ((gst σ) k) b), va_up ((gpc σ)) k (((gpc σ) k) + 1), va_up ((gpf σ)) ((k * 40) + ((gpc σ) k)) ((gst σ) k), glo σ, ghi σ, gwt σ, ggr σ, gsu σ, gho σ, ghs σ, grb σ)) := hD
  exact W.vret hx hb hr (fun t ht hW => ⟨⟨(), rfl, trivial, by show gP E _ t.heap; rw [ht]; exact hP⟩, hS.F ht⟩) hS.2.2 dX0_walk_60
theorem hinX0_follow : ∀ w ∈ wsX00, w ∈ wsX0_follow := fun w h => List.mem_cons_of_mem _ (List.mem_append_left _ (List.mem_append_right _ h))
theorem hdX0_follow : yX0_follow.cls = RX0 ∧ yX0_follow.cls ≠ "java/lang/invoke/MethodHandle" ∧ yX0_follow.cls ≠ "java/lang/invoke/VarHandle" ∧ (parseMethodDescriptor yX0_follow.desc).map (fun d => d.parameters.length) = some 1 := by decide +kernel
set_option maxHeartbeats 4000000 in
set_option maxRecDepth 100000 in
theorem c_follow (l : Launch) (E : GE) (a : Nat → Nat) (σ : GS) (sz : Nat) (hO : GOK σ) (k : Nat) (hk : k < gk σ) : Met l yX0_follow wsX0_follow { frames := 4, cells := 0, slots := 0, locals := 88 } (va_Pc [.ref (a 0), .int (nI k)] (gBw E sz (gW E a σ))) (gQi E (nI (gFc k 40 σ)) (gW E a σ) (gW E a (gFo k 40 σ)) sz) 0 0 (va_A (gW E a σ) sz) := by
  refine w_met (cc := cX0_follow) (maxL := 3) (ret := (some .int)) (by decide) rfl (Nat.le_of_ble_eq_true rfl) ?_
  intro p e s m below meth c ls S hr hlocks hname hB hl
  obtain ⟨hsz, hP, hK, hD0⟩ := hB
  subst hsz
  have hD := hD0.self (sz := s.heap.size)
  have hA : ∀ q : Nat, s.heap.size ≤ q → va_A (gW E a σ) s.heap.size q := fun q h => Or.inr h
  have hS : va_S (va_A (gW E a σ) s.heap.size) s.heap s.heap [] := va_S.rf
  obtain ⟨hx, hb, hml, hown, hts⟩ := id S
  have tk := hO.2.1
  have hts0 := hinX0_follow
  have hl : lv_has ls 3 [(0, .ref (a 0)), (1, .int (nI k))] := hl
  refine lv_aload_n hx hb dX0_follow_0 rfl (lv_at hl 0 rfl) ?_
  refine lv_iload_n hx hb dX0_follow_1 rfl (lv_at hl 1 rfl) ?_
  refine g0v (As := [.int (nI k)]) (rest := []) S (c_requireStudent l E a σ k (by omega) (by omega)) (cwV 1 hts gX0_follow_X0_requireStudent rfl rfl rfl hdX0_requireStudent ⟨Nat.le_of_ble_eq_true rfl, Nat.le_of_ble_eq_true rfl⟩) hK hP rfl hl.1 rfl (Nat.le_of_ble_eq_true rfl) ⟨Nat.zero_le _, Nat.zero_le _⟩ dX0_follow_2 ?_
  refine lv_iconst (v := 0) hx hb dX0_follow_5 (by decide) ?_
  refine lv_istore_n (lv' := [(2, .int 0), (0, .ref (a 0)), (1, .int (nI k))]) hx hb dX0_follow_6 rfl hl (by decide) rfl (fun ls hl => ?_)
  have key : ∀ (d i : Nat) (x : Nat) (s1 : GS) (H : Heap) (locs : List Loc) (ls : Array Slot), i + d = 40 → gFo k 40 σ = gFo k (40 - i) s1 ∧ gFc k 40 σ = gFc k (40 - i) s1 + x ∧ x = i ∧ GOK s1 ∧ k < gk s1 → gP E (gW E a s1) H → va_S (va_A (gW E a σ) s.heap.size) s.heap H locs → lv_has ls 3 [(2, .int (nI i)), (0, .ref (a 0)), (1, .int (nI k))] → W p l e (headSpec wsX0_follow { frames := 4, cells := 0, slots := 0, locals := 88 }).room s m [.ref (a 0), .int (nI k)].toArray below meth c H locs 0 0 (MQ below (gQi E (nI (gFc k 40 σ)) (gW E a σ) (gW E a (gFo k 40 σ)) s.heap.size) [.ref (a 0), .int (nI k)].toArray s 0 0 (va_A (gW E a σ) s.heap.size)) (F0 m 7 ls []) := by
    intro d
    induction d with
    | zero =>
      intro i x s1 H locs ls hi hinv hP hS hl
      have hD : va_D (va_A (gW E a σ) s.heap.size) (gW E a s1) := gW_D hD
      have hO1 := hinv.2.2.2.1
      have t1 := hO1.2.2.2.2.1 k
      have t2 := hO1.2.2.2.2.2.2.1 k
      have t3 := hO1.2.1
      have t4 := hinv.2.2.2.2
      obtain rfl : i = 40 := by omega
      refine lv_iload_n hx hb dX0_follow_7 rfl (lv_at hl 0 rfl) ?_
      refine lv_bipush (v := nI 40) hx hb dX0_follow_8 (by decide) ?_
      refine lv_icmp_ge (tgt := 51) hx hb dX0_follow_10 (by decide) (fun _ => ?_) (fun q => absurd ((nI_le (by omega) (by omega))) q)
      refine lv_iload_n hx hb dX0_follow_51 rfl (lv_at hl 0 rfl) ?_
      exact W.iret hx hb hr (fun t ht hW => ⟨⟨_, (), rfl, (by first | (rw [hinv.2.1, show 40 - i = (40 - (i + 1)) + 1 by omega, gFc, if_pos hz, hinv.2.2.1, Nat.zero_add]) | (rw [hinv.2.1, hinv.2.2.1]; rfl)), by show gP E _ t.heap; rw [ht]; (first | (rw [hinv.1, show 40 - i = (40 - (i + 1)) + 1 by omega, gFo, if_pos hz]; exact hP) | (rw [hinv.1]; exact hP))⟩, hS.F ht⟩) hS.2.2 dX0_follow_52
    | succ d ih =>
      intro i x s1 H locs ls hi hinv hP hS hl
      have hD : va_D (va_A (gW E a σ) s.heap.size) (gW E a s1) := gW_D hD
      have hO1 := hinv.2.2.2.1
      have t1 := hO1.2.2.2.2.1 k
      have t2 := hO1.2.2.2.2.2.2.1 k
      have t3 := hO1.2.1
      have t4 := hinv.2.2.2.2
      refine lv_iload_n hx hb dX0_follow_7 rfl (lv_at hl 0 rfl) ?_
      refine lv_bipush (v := nI 40) hx hb dX0_follow_8 (by decide) ?_
      refine lv_icmp_ge (tgt := 51) hx hb dX0_follow_10 (by decide) (fun q => absurd q ((nI_ge (by omega) (by omega)))) (fun _ => ?_)
      refine lv_aload_n hx hb dX0_follow_13 rfl (lv_at hl 1 rfl) ?_
      refine lv_aload_n hx hb dX0_follow_14 rfl (lv_at hl 1 rfl) ?_
      refine g_get (σ := s1) hx hb hts hts0 hown hK hP 15 (by decide) (by decide +kernel) rfl rfl dX0_follow_15 ?_
      refine lv_iload_n hx hb dX0_follow_18 rfl (lv_at hl 2 rfl) ?_
      refine g_at S gX0_follow_X0_at hK hP 11 rfl (by decide) (v := nI ((gst s1) k)) (vp_in_nI (by omega) (by decide)) (by rw [nI_clamp (by omega)]) hl.1 (Nat.le_of_ble_eq_true rfl) ⟨Nat.zero_le _, Nat.zero_le _⟩ ⟨Nat.le_of_ble_eq_true rfl, Nat.le_of_ble_eq_true rfl⟩ dX0_follow_19 ?_
      refine g0i (As := [.int (nI ((gst s1) k))]) (rest := []) S (c_holdsExam l E a s1 ((gst s1) k) (by omega)) (cwV 1 hts gX0_follow_X0_holdsExam rfl rfl rfl hdX0_holdsExam ⟨Nat.le_of_ble_eq_true rfl, Nat.le_of_ble_eq_true rfl⟩) hK hP rfl hl.1 rfl (Nat.le_of_ble_eq_true rfl) ⟨Nat.zero_le _, Nat.zero_le _⟩ dX0_follow_22 ?_
      refine lv_if_ne (tgt := 51) hx hb dX0_follow_25 (by decide) (fun c25 => ?_) (fun c25 => ?_)
      · have hz := b2i_ne0.mp c25
        refine lv_iload_n hx hb dX0_follow_51 rfl (lv_at hl 0 rfl) ?_
        exact W.iret hx hb hr (fun t ht hW => ⟨⟨_, (), rfl, (by first | (rw [hinv.2.1, show 40 - i = (40 - (i + 1)) + 1 by omega, gFc, if_pos hz, hinv.2.2.1, Nat.zero_add]) | (rw [hinv.2.1, hinv.2.2.1]; rfl)), by show gP E _ t.heap; rw [ht]; (first | (rw [hinv.1, show 40 - i = (40 - (i + 1)) + 1 by omega, gFo, if_pos hz]; exact hP) | (rw [hinv.1]; exact hP))⟩, hS.F ht⟩) hS.2.2 dX0_follow_52
      · have hz := b2i_eq0.mp c25
        refine lv_aload_n hx hb dX0_follow_28 rfl (lv_at hl 1 rfl) ?_
        refine lv_iload_n hx hb dX0_follow_29 rfl (lv_at hl 2 rfl) ?_
        refine lv_aload_n hx hb dX0_follow_30 rfl (lv_at hl 1 rfl) ?_
        refine lv_aload_n hx hb dX0_follow_31 rfl (lv_at hl 1 rfl) ?_
        refine g_get (σ := s1) hx hb hts hts0 hown hK hP 15 (by decide) (by decide +kernel) rfl rfl dX0_follow_32 ?_
        refine lv_iload_n hx hb dX0_follow_35 rfl (lv_at hl 2 rfl) ?_
        refine g_at S gX0_follow_X0_at hK hP 11 rfl (by decide) (v := nI ((gst s1) k)) (vp_in_nI (by omega) (by decide)) (by rw [nI_clamp (by omega)]) hl.1 (Nat.le_of_ble_eq_true rfl) ⟨Nat.zero_le _, Nat.zero_le _⟩ ⟨Nat.le_of_ble_eq_true rfl, Nat.le_of_ble_eq_true rfl⟩ dX0_follow_36 ?_
        refine g0i (As := [.int (nI ((gst s1) k))]) (rest := [.int (nI k), .ref (a 0)]) S (c_plansRight l E a s1 hO1 ((gst s1) k) (by omega)) (cwV 1 hts gX0_follow_X0_plansRight rfl rfl rfl hdX0_plansRight ⟨Nat.le_of_ble_eq_true rfl, Nat.le_of_ble_eq_true rfl⟩) hK hP rfl hl.1 rfl (Nat.le_of_ble_eq_true rfl) ⟨Nat.zero_le _, Nat.zero_le _⟩ dX0_follow_39 ?_
        refine g0w (As := [.int (nI k), .int (b2i (gPl s1 ((gst s1) k)))]) (rest := []) (σ' := gWalk s1 k (gPl s1 ((gst s1) k))) S (c_walk l E a s1 _ hO1 k (by omega) (by omega) (gPl s1 ((gst s1) k))) (cwV 2 hts gX0_follow_X0_walk rfl rfl rfl hdX0_walk ⟨Nat.le_of_ble_eq_true rfl, Nat.le_of_ble_eq_true rfl⟩) hK hP hD hS hA rfl hl.1 rfl (Nat.le_of_ble_eq_true rfl) ⟨Nat.zero_le _, Nat.zero_le _⟩ dX0_follow_42 (fun H locs hP hD hS => ?_)
        refine lv_iinc (v := nI (i + 1)) (lv' := [(2, .int (nI (i + 1))), (0, .ref (a 0)), (1, .int (nI k))]) hx hb dX0_follow_45 hl (k := 0) rfl (nI_1 i) (by decide) rfl (fun ls hl => ?_)
        refine lv_goto (tgt := 7) hx hb dX0_follow_48 (by decide) ?_
        exact ih (i + 1) (x + 1) ((gWalk s1 k (gPl s1 ((gst s1) k)))) H locs ls (by omega) ⟨by rw [hinv.1, show 40 - i = (40 - (i + 1)) + 1 by omega, gFo, hz]; rfl, by rw [hinv.2.1, show 40 - i = (40 - (i + 1)) + 1 by omega, gFc, hz]; show _ + 1 + x = _ + (x + 1); omega, by omega, gWalk_ok hO1 hinv.2.2.2.2 hz _, hinv.2.2.2.2⟩ hP hS (lv_sub hl [0, 1, 2] rfl)
  exact key 40 0 0 σ _ _ ls (by omega) ⟨rfl, rfl, rfl, hO, hk⟩ hP hS (lv_sub hl [0, 1, 2] rfl)
theorem hinX0_addExam : ∀ w ∈ wsX00, w ∈ wsX0_addExam := fun w h => List.mem_cons_of_mem _ (List.mem_append_left _ (List.mem_append_left _ (List.mem_append_right _ h)))
theorem hdX0_addExam : yX0_addExam.cls = RX0 ∧ yX0_addExam.cls ≠ "java/lang/invoke/MethodHandle" ∧ yX0_addExam.cls ≠ "java/lang/invoke/VarHandle" ∧ (parseMethodDescriptor yX0_addExam.desc).map (fun d => d.parameters.length) = some 2 := by decide +kernel
set_option maxHeartbeats 4000000 in
set_option maxRecDepth 100000 in
theorem c_addExam (l : Launch) (E : GE) (a : Nat → Nat) (σ : GS) (sz : Nat) (x y : Nat) (hxy : x ≤ y) (hy : y ≤ 20) (hn : gn σ < 40) : Met l yX0_addExam wsX0_addExam { frames := 3, cells := 0, slots := 0, locals := 65 } (va_Pc [.ref (a 0), .int (nI x), .int (nI y)] (gBw E sz (gW E a σ))) (gQi E (nI (gn σ)) (gW E a σ) (gW E a (gAddE σ x y)) sz) 0 0 (va_A (gW E a σ) sz) := by
  refine w_met (cc := cX0_addExam) (maxL := 4) (ret := (some .int)) (by decide) rfl (Nat.le_of_ble_eq_true rfl) ?_
  intro p e s m below meth c ls S hr hlocks hname hB hl
  obtain ⟨hsz, hP, hK, hD0⟩ := hB
  subst hsz
  have hD := hD0.self (sz := s.heap.size)
  have hA : ∀ q : Nat, s.heap.size ≤ q → va_A (gW E a σ) s.heap.size q := fun q h => Or.inr h
  have hS : va_S (va_A (gW E a σ) s.heap.size) s.heap s.heap [] := va_S.rf
  obtain ⟨hx, hb, hml, hown, hts⟩ := id S
  have hts0 := hinX0_addExam
  have hl : lv_has ls 4 [(0, .ref (a 0)), (1, .int (nI x)), (2, .int (nI y))] := hl
  refine lv_iload_n hx hb dX0_addExam_0 rfl (lv_at hl 1 rfl) ?_
  refine lv_if_lt (tgt := 15) hx hb dX0_addExam_1 (by decide) (fun q => absurd q ((nI_pos (by omega)))) (fun _ => ?_)
  refine lv_iload_n hx hb dX0_addExam_4 rfl (lv_at hl 2 rfl) ?_
  refine lv_bipush (v := nI 20) hx hb dX0_addExam_5 (by decide) ?_
  refine lv_icmp_gt (tgt := 15) hx hb dX0_addExam_7 (by decide) (fun q => absurd q ((nI_nlt (by omega) (by omega)))) (fun _ => ?_)
  refine lv_iload_n hx hb dX0_addExam_10 rfl (lv_at hl 2 rfl) ?_
  refine lv_iload_n hx hb dX0_addExam_11 rfl (lv_at hl 1 rfl) ?_
  refine lv_icmp_ge (tgt := 25) hx hb dX0_addExam_12 (by decide) (fun _ => ?_) (fun q => absurd ((nI_le (by omega) (by omega))) q)
  refine lv_aload_n hx hb dX0_addExam_25 rfl (lv_at hl 0 rfl) ?_
  refine g0v (As := []) (rest := []) S (c_requireRoom l E a σ (by omega)) (cwV 0 hts gX0_addExam_X0_requireRoom rfl rfl rfl hdX0_requireRoom ⟨Nat.le_of_ble_eq_true rfl, Nat.le_of_ble_eq_true rfl⟩) hK hP rfl hl.1 rfl (Nat.le_of_ble_eq_true rfl) ⟨Nat.zero_le _, Nat.zero_le _⟩ dX0_addExam_26 ?_
  refine lv_aload_n hx hb dX0_addExam_29 rfl (lv_at hl 0 rfl) ?_
  refine g_get (σ := σ) hx hb hts hts0 hown hK hP 0 (by decide) (by decide +kernel) rfl rfl dX0_addExam_30 ?_
  refine lv_istore_n (lv' := [(3, .int (nI (gn σ))), (0, .ref (a 0)), (1, .int (nI x)), (2, .int (nI y))]) hx hb dX0_addExam_33 rfl hl (by decide) rfl (fun ls hl => ?_)
  refine lv_aload_n hx hb dX0_addExam_34 rfl (lv_at hl 1 rfl) ?_
  refine lv_dup hx hb dX0_addExam_35 rfl ?_
  refine g_get (σ := σ) hx hb hts hts0 hown hK hP 4 (by decide) (by decide +kernel) rfl rfl dX0_addExam_36 ?_
  refine lv_iload_n hx hb dX0_addExam_39 rfl (lv_at hl 0 rfl) ?_
  refine g_bitOf S gX0_addExam_X0_bitOf hK (k := gn σ) (by omega) hl.1 (Nat.le_of_ble_eq_true rfl) ⟨Nat.zero_le _, Nat.zero_le _⟩ ⟨Nat.le_of_ble_eq_true rfl, Nat.le_of_ble_eq_true rfl⟩ dX0_addExam_40 ?_
  refine lv_lor hx hb dX0_addExam_43 ?_
  refine va_put (D := E.1) (ci := 0) (v := .long ((ge σ) ||| (gbit (gn σ)))) (ty := .long) (C := RX0) (T := TX0) (N := 18) hx hb hts hts0 tyX0 tyX0_ok nmX0 hown hK hP hD hS 0 rfl rfl 4 (by decide) (hts (.fieldLink RX0 64 "ExamGarden" "examBits" "J") (by decide +kernel)) (fun _ h9 => h9) rfl (by decide +kernel) rfl rfl (Nat.le_of_ble_eq_true rfl) dX0_addExam_44 (fun H locs hP hD hS => ?_)
  have hP : gP E (gW E a (gn σ, gk σ, gc σ, gs σ, (ge σ) ||| (gbit (gn σ)), glf σ, grt σ, gst σ, gpc σ, gpf σ, glo σ, ghi σ, gwt σ, ggr σ, gsu σ, gho σ, ghs σ, grb σ)) H := hP
  have hD : va_D (va_A (gW E a σ) s.heap.size) (gW E a (gn σ, gk σ, gc σ, gs σ, (ge σ) ||| (gbit (gn σ)), glf σ, grt σ, gst σ, gpc σ, gpf σ, glo σ, ghi σ, gwt σ, ggr σ, gsu σ, gho σ, ghs σ, grb σ)) := hD
  refine lv_aload_n hx hb dX0_addExam_47 rfl (lv_at hl 1 rfl) ?_
  refine g_get (σ := (gn σ, gk σ, gc σ, gs σ, (ge σ) ||| (gbit (gn σ)), glf σ, grt σ, gst σ, gpc σ, gpf σ, glo σ, ghi σ, gwt σ, ggr σ, gsu σ, gho σ, ghs σ, grb σ)) hx hb hts hts0 hown hK hP 5 (by decide) (by decide +kernel) rfl rfl dX0_addExam_48 ?_
  refine lv_iload_n hx hb dX0_addExam_51 rfl (lv_at hl 0 rfl) ?_
  refine lv_iload_n hx hb dX0_addExam_52 rfl (lv_at hl 2 rfl) ?_
  refine g_put S gX0_addExam_X0_put hK hP hD hS hA 1 rfl (by decide) (f' := (fun z9 => nI (va_up ((glo σ)) (gn σ) x z9))) (vp_in_nI (by omega) (by decide)) (by rw [nI_clamp (by omega)]; exact n_upd _ _ _) hl.1 (Nat.le_of_ble_eq_true rfl) ⟨Nat.zero_le _, Nat.zero_le _⟩ ⟨Nat.le_of_ble_eq_true rfl, Nat.le_of_ble_eq_true rfl⟩ dX0_addExam_53 (fun H locs hP hD hS => ?_)
  have hP : gP E (gW E a (gn σ, gk σ, gc σ, gs σ, (ge σ) ||| (gbit (gn σ)), glf σ, grt σ, gst σ, gpc σ, gpf σ, va_up ((glo σ)) (gn σ) x, ghi σ, gwt σ, ggr σ, gsu σ, gho σ, ghs σ, grb σ)) H := hP
  have hD : va_D (va_A (gW E a σ) s.heap.size) (gW E a (gn σ, gk σ, gc σ, gs σ, (ge σ) ||| (gbit (gn σ)), glf σ, grt σ, gst σ, gpc σ, gpf σ, va_up ((glo σ)) (gn σ) x, ghi σ, gwt σ, ggr σ, gsu σ, gho σ, ghs σ, grb σ)) := hD
  refine lv_aload_n hx hb dX0_addExam_56 rfl (lv_at hl 1 rfl) ?_
  refine g_get (σ := (gn σ, gk σ, gc σ, gs σ, (ge σ) ||| (gbit (gn σ)), glf σ, grt σ, gst σ, gpc σ, gpf σ, va_up ((glo σ)) (gn σ) x, ghi σ, gwt σ, ggr σ, gsu σ, gho σ, ghs σ, grb σ)) hx hb hts hts0 hown hK hP 6 (by decide) (by decide +kernel) rfl rfl dX0_addExam_57 ?_
  refine lv_iload_n hx hb dX0_addExam_60 rfl (lv_at hl 0 rfl) ?_
  refine lv_iload_n hx hb dX0_addExam_61 rfl (lv_at hl 3 rfl) ?_
  refine g_put S gX0_addExam_X0_put hK hP hD hS hA 2 rfl (by decide) (f' := (fun z9 => nI (va_up ((ghi σ)) (gn σ) y z9))) (vp_in_nI (by omega) (by decide)) (by rw [nI_clamp (by omega)]; exact n_upd _ _ _) hl.1 (Nat.le_of_ble_eq_true rfl) ⟨Nat.zero_le _, Nat.zero_le _⟩ ⟨Nat.le_of_ble_eq_true rfl, Nat.le_of_ble_eq_true rfl⟩ dX0_addExam_62 (fun H locs hP hD hS => ?_)
  have hP : gP E (gW E a (gn σ, gk σ, gc σ, gs σ, (ge σ) ||| (gbit (gn σ)), glf σ, grt σ, gst σ, gpc σ, gpf σ, va_up ((glo σ)) (gn σ) x, va_up ((ghi σ)) (gn σ) y, gwt σ, ggr σ, gsu σ, gho σ, ghs σ, grb σ)) H := hP
  have hD : va_D (va_A (gW E a σ) s.heap.size) (gW E a (gn σ, gk σ, gc σ, gs σ, (ge σ) ||| (gbit (gn σ)), glf σ, grt σ, gst σ, gpc σ, gpf σ, va_up ((glo σ)) (gn σ) x, va_up ((ghi σ)) (gn σ) y, gwt σ, ggr σ, gsu σ, gho σ, ghs σ, grb σ)) := hD
  refine lv_aload_n hx hb dX0_addExam_65 rfl (lv_at hl 1 rfl) ?_
  refine g_get (σ := (gn σ, gk σ, gc σ, gs σ, (ge σ) ||| (gbit (gn σ)), glf σ, grt σ, gst σ, gpc σ, gpf σ, va_up ((glo σ)) (gn σ) x, va_up ((ghi σ)) (gn σ) y, gwt σ, ggr σ, gsu σ, gho σ, ghs σ, grb σ)) hx hb hts hts0 hown hK hP 10 (by decide) (by decide +kernel) rfl rfl dX0_addExam_66 ?_
  refine lv_iload_n hx hb dX0_addExam_69 rfl (lv_at hl 0 rfl) ?_
  refine lv_iconst (v := -1) hx hb dX0_addExam_70 (by decide) ?_
  refine g_put S gX0_addExam_X0_put hK hP hD hS hA 6 rfl (by decide) (f' := (upd ((ggr σ)) (gn σ) ((-1)))) (vp_in_nI (by omega) (by decide)) (by rw [nI_clamp (by omega)]) hl.1 (Nat.le_of_ble_eq_true rfl) ⟨Nat.zero_le _, Nat.zero_le _⟩ ⟨Nat.le_of_ble_eq_true rfl, Nat.le_of_ble_eq_true rfl⟩ dX0_addExam_71 (fun H locs hP hD hS => ?_)
  have hP : gP E (gW E a (gn σ, gk σ, gc σ, gs σ, (ge σ) ||| (gbit (gn σ)), glf σ, grt σ, gst σ, gpc σ, gpf σ, va_up ((glo σ)) (gn σ) x, va_up ((ghi σ)) (gn σ) y, gwt σ, upd ((ggr σ)) (gn σ) ((-1)), gsu σ, gho σ, ghs σ, grb σ)) H := hP
  have hD : va_D (va_A (gW E a σ) s.heap.size) (gW E a (gn σ, gk σ, gc σ, gs σ, (ge σ) ||| (gbit (gn σ)), glf σ, grt σ, gst σ, gpc σ, gpf σ, va_up ((glo σ)) (gn σ) x, va_up ((ghi σ)) (gn σ) y, gwt σ, upd ((ggr σ)) (gn σ) ((-1)), gsu σ, gho σ, ghs σ, grb σ)) := hD
  refine lv_aload_n hx hb dX0_addExam_74 rfl (lv_at hl 1 rfl) ?_
  refine g_get (σ := (gn σ, gk σ, gc σ, gs σ, (ge σ) ||| (gbit (gn σ)), glf σ, grt σ, gst σ, gpc σ, gpf σ, va_up ((glo σ)) (gn σ) x, va_up ((ghi σ)) (gn σ) y, gwt σ, upd ((ggr σ)) (gn σ) ((-1)), gsu σ, gho σ, ghs σ, grb σ)) hx hb hts hts0 hown hK hP 14 (by decide) (by decide +kernel) rfl rfl dX0_addExam_75 ?_
  refine lv_iload_n hx hb dX0_addExam_78 rfl (lv_at hl 0 rfl) ?_
  refine lv_iload_n hx hb dX0_addExam_79 rfl (lv_at hl 0 rfl) ?_
  refine g_bitOf S gX0_addExam_X0_bitOf hK (k := gn σ) (by omega) hl.1 (Nat.le_of_ble_eq_true rfl) ⟨Nat.zero_le _, Nat.zero_le _⟩ ⟨Nat.le_of_ble_eq_true rfl, Nat.le_of_ble_eq_true rfl⟩ dX0_addExam_80 ?_
  refine g_putBits S gX0_addExam_X0_putBits hK hP hD hS hA 10 rfl (by decide) (f' := (vp_updL ((grb σ)) (gn σ) (gbit (gn σ)))) (vp_in_nI (by omega) (by decide)) (by rw [nI_clamp (by omega)]) hl.1 (Nat.le_of_ble_eq_true rfl) ⟨Nat.zero_le _, Nat.zero_le _⟩ ⟨Nat.le_of_ble_eq_true rfl, Nat.le_of_ble_eq_true rfl⟩ dX0_addExam_83 (fun H locs hP hD hS => ?_)
  have hP : gP E (gW E a (gn σ, gk σ, gc σ, gs σ, (ge σ) ||| (gbit (gn σ)), glf σ, grt σ, gst σ, gpc σ, gpf σ, va_up ((glo σ)) (gn σ) x, va_up ((ghi σ)) (gn σ) y, gwt σ, upd ((ggr σ)) (gn σ) ((-1)), gsu σ, gho σ, ghs σ, vp_updL ((grb σ)) (gn σ) (gbit (gn σ)))) H := hP
  have hD : va_D (va_A (gW E a σ) s.heap.size) (gW E a (gn σ, gk σ, gc σ, gs σ, (ge σ) ||| (gbit (gn σ)), glf σ, grt σ, gst σ, gpc σ, gpf σ, va_up ((glo σ)) (gn σ) x, va_up ((ghi σ)) (gn σ) y, gwt σ, upd ((ggr σ)) (gn σ) ((-1)), gsu σ, gho σ, ghs σ, vp_updL ((grb σ)) (gn σ) (gbit (gn σ)))) := hD
  refine lv_aload_n hx hb dX0_addExam_86 rfl (lv_at hl 1 rfl) ?_
  refine lv_iload_n hx hb dX0_addExam_87 rfl (lv_at hl 0 rfl) ?_
  refine g0w (As := [.int (nI (gn σ))]) (rest := []) (σ' := gSeE (gn σ, gk σ, gc σ, gs σ, (ge σ) ||| (gbit (gn σ)), glf σ, grt σ, gst σ, gpc σ, gpf σ, va_up ((glo σ)) (gn σ) x, va_up ((ghi σ)) (gn σ) y, gwt σ, upd ((ggr σ)) (gn σ) ((-1)), gsu σ, gho σ, ghs σ, vp_updL ((grb σ)) (gn σ) (gbit (gn σ))) (gn σ)) S (c_settleExam l E a (gn σ, gk σ, gc σ, gs σ, (ge σ) ||| (gbit (gn σ)), glf σ, grt σ, gst σ, gpc σ, gpf σ, va_up ((glo σ)) (gn σ) x, va_up ((ghi σ)) (gn σ) y, gwt σ, upd ((ggr σ)) (gn σ) ((-1)), gsu σ, gho σ, ghs σ, vp_updL ((grb σ)) (gn σ) (gbit (gn σ))) _ (gn σ) (by omega)) (cwV 1 hts gX0_addExam_X0_settleExam rfl rfl rfl hdX0_settleExam ⟨Nat.le_of_ble_eq_true rfl, Nat.le_of_ble_eq_true rfl⟩) hK hP hD hS hA rfl hl.1 rfl (Nat.le_of_ble_eq_true rfl) ⟨Nat.zero_le _, Nat.zero_le _⟩ dX0_addExam_88 (fun H locs hP hD hS => ?_)
  refine lv_aload_n hx hb dX0_addExam_91 rfl (lv_at hl 1 rfl) ?_
  refine lv_dup hx hb dX0_addExam_92 rfl ?_
  refine g_get (σ := (gSeE (gn σ, gk σ, gc σ, gs σ, (ge σ) ||| (gbit (gn σ)), glf σ, grt σ, gst σ, gpc σ, gpf σ, va_up ((glo σ)) (gn σ) x, va_up ((ghi σ)) (gn σ) y, gwt σ, upd ((ggr σ)) (gn σ) ((-1)), gsu σ, gho σ, ghs σ, vp_updL ((grb σ)) (gn σ) (gbit (gn σ))) (gn σ))) hx hb hts hts0 hown hK hP 0 (by decide) (by decide +kernel) rfl rfl dX0_addExam_93 ?_
  refine lv_iconst (v := 1) hx hb dX0_addExam_96 (by decide) ?_
  refine lv_iadd hx hb dX0_addExam_97 ?_
  rw [nI_1 (gn (gSeE (gn σ, gk σ, gc σ, gs σ, (ge σ) ||| (gbit (gn σ)), glf σ, grt σ, gst σ, gpc σ, gpf σ, va_up ((glo σ)) (gn σ) x, va_up ((ghi σ)) (gn σ) y, gwt σ, upd ((ggr σ)) (gn σ) ((-1)), gsu σ, gho σ, ghs σ, vp_updL ((grb σ)) (gn σ) (gbit (gn σ))) (gn σ)))]
  refine va_put (D := E.1) (ci := 0) (v := .int (nI ((gn (gSeE (gn σ, gk σ, gc σ, gs σ, (ge σ) ||| (gbit (gn σ)), glf σ, grt σ, gst σ, gpc σ, gpf σ, va_up ((glo σ)) (gn σ) x, va_up ((ghi σ)) (gn σ) y, gwt σ, upd ((ggr σ)) (gn σ) ((-1)), gsu σ, gho σ, ghs σ, vp_updL ((grb σ)) (gn σ) (gbit (gn σ))) (gn σ))) + 1))) (ty := .int) (C := RX0) (T := TX0) (N := 18) hx hb hts hts0 tyX0 tyX0_ok nmX0 hown hK hP hD hS 0 rfl rfl 0 (by decide) (hts (.fieldLink RX0 60 "ExamGarden" "placeCount" "I") (by decide +kernel)) (fun _ h9 => h9) rfl (by decide +kernel) rfl rfl (Nat.le_of_ble_eq_true rfl) dX0_addExam_98 (fun H locs hP hD hS => ?_)
  have hP : gP E (gW E a ((gn (gSeE (gn σ, gk σ, gc σ, gs σ, (ge σ) ||| (gbit (gn σ)), glf σ, grt σ, gst σ, gpc σ, gpf σ, va_up ((glo σ)) (gn σ) x, va_up ((ghi σ)) (gn σ) y, gwt σ, upd ((ggr σ)) (gn σ) ((-1)), gsu σ, gho σ, ghs σ, vp_updL ((grb σ)) (gn σ) (gbit (gn σ))) (gn σ))) + 1, gk (gSeE (gn σ, gk σ, gc σ, gs σ, (ge σ) ||| (gbit (gn σ)), glf σ, grt σ, gst σ, gpc σ, gpf σ, va_up ((glo σ)) (gn σ) x, va_up ((ghi σ)) (gn σ) y, gwt σ, upd ((ggr σ)) (gn σ) ((-1)), gsu σ, gho σ, ghs σ, vp_updL ((grb σ)) (gn σ) (gbit (gn σ))) (gn σ)), gc (gSeE (gn σ, gk σ, gc σ, gs σ, (ge σ) ||| (gbit (gn σ)), glf σ, grt σ, gst σ, gpc σ, gpf σ, va_up ((glo σ)) (gn σ) x, va_up ((ghi σ)) (gn σ) y, gwt σ, upd ((ggr σ)) (gn σ) ((-1)), gsu σ, gho σ, ghs σ, vp_updL ((grb σ)) (gn σ) (gbit (gn σ))) (gn σ)), gs (gSeE (gn σ, gk σ, gc σ, gs σ, (ge σ) ||| (gbit (gn σ)), glf σ, grt σ, gst σ, gpc σ, gpf σ, va_up ((glo σ)) (gn σ) x, va_up ((ghi σ)) (gn σ) y, gwt σ, upd ((ggr σ)) (gn σ) ((-1)), gsu σ, gho σ, ghs σ, vp_updL ((grb σ)) (gn σ) (gbit (gn σ))) (gn σ)), ge (gSeE (gn σ, gk σ, gc σ, gs σ, (ge σ) ||| (gbit (gn σ)), glf σ, grt σ, gst σ, gpc σ, gpf σ, va_up ((glo σ)) (gn σ) x, va_up ((ghi σ)) (gn σ) y, gwt σ, upd ((ggr σ)) (gn σ) ((-1)), gsu σ, gho σ, ghs σ, vp_updL ((grb σ)) (gn σ) (gbit (gn σ))) (gn σ)), glf (gSeE (gn σ, gk σ, gc σ, gs σ, (ge σ) ||| (gbit (gn σ)), glf σ, grt σ, gst σ, gpc σ, gpf σ, va_up ((glo σ)) (gn σ) x, va_up ((ghi σ)) (gn σ) y, gwt σ, upd ((ggr σ)) (gn σ) ((-1)), gsu σ, gho σ, ghs σ, vp_updL ((grb σ)) (gn σ) (gbit (gn σ))) (gn σ)), grt (gSeE (gn σ, gk σ, gc σ, gs σ, (ge σ) ||| (gbit (gn σ)), glf σ, grt σ, gst σ, gpc σ, gpf σ, va_up ((glo σ)) (gn σ) x, va_up ((ghi σ)) (gn σ) y, gwt σ, upd ((ggr σ)) (gn σ) ((-1)), gsu σ, gho σ, ghs σ, vp_updL ((grb σ)) (gn σ) (gbit (gn σ))) (gn σ)), gst (gSeE (gn σ, gk σ, gc σ, gs σ, (ge σ) ||| (gbit (gn σ)), glf σ, grt σ, gst σ, gpc σ, gpf σ, va_up ((glo σ)) (gn σ) x, va_up ((ghi σ)) (gn σ) y, gwt σ, upd ((ggr σ)) (gn σ) ((-1)), gsu σ, gho σ, ghs σ, vp_updL ((grb σ)) (gn σ) (gbit (gn σ))) (gn σ)), gpc (gSeE (gn σ, gk σ, gc σ, gs σ, (ge σ) ||| (gbit (gn σ)), glf σ, grt σ, gst σ, gpc σ, gpf σ, va_up ((glo σ)) (gn σ) x, va_up ((ghi σ)) (gn σ) y, gwt σ, upd ((ggr σ)) (gn σ) ((-1)), gsu σ, gho σ, ghs σ, vp_updL ((grb σ)) (gn σ) (gbit (gn σ))) (gn σ)), gpf (gSeE (gn σ, gk σ, gc σ, gs σ, (ge σ) ||| (gbit (gn σ)), glf σ, grt σ, gst σ, gpc σ, gpf σ, va_up ((glo σ)) (gn σ) x, va_up ((ghi σ)) (gn σ) y, gwt σ, upd ((ggr σ)) (gn σ) ((-1)), gsu σ, gho σ, ghs σ, vp_updL ((grb σ)) (gn σ) (gbit (gn σ))) (gn σ)), glo (gSeE (gn σ, gk σ, gc σ, gs σ, (ge σ) ||| (gbit (gn σ)), glf σ, grt σ, gst σ, gpc σ, gpf σ, va_up ((glo σ)) (gn σ) x, va_up ((ghi σ)) (gn σ) y, gwt σ, upd ((ggr σ)) (gn σ) ((-1)), gsu σ, gho σ, ghs σ, vp_updL ((grb σ)) (gn σ) (gbit (gn σ))) (gn σ)), ghi (gSeE (gn σ, gk σ, gc σ, gs σ, (ge σ) ||| (gbit (gn σ)), glf σ, grt σ, gst σ, gpc σ, gpf σ, va_up ((glo σ)) (gn σ) x, va_up ((ghi σ)) (gn σ) y, gwt σ, upd ((ggr σ)) (gn σ) ((-1)), gsu σ, gho σ, ghs σ, vp_updL ((grb σ)) (gn σ) (gbit (gn σ))) (gn σ)), gwt (gSeE (gn σ, gk σ, gc σ, gs σ, (ge σ) ||| (gbit (gn σ)), glf σ, grt σ, gst σ, gpc σ, gpf σ, va_up ((glo σ)) (gn σ) x, va_up ((ghi σ)) (gn σ) y, gwt σ, upd ((ggr σ)) (gn σ) ((-1)), gsu σ, gho σ, ghs σ, vp_updL ((grb σ)) (gn σ) (gbit (gn σ))) (gn σ)), ggr (gSeE (gn σ, gk σ, gc σ, gs σ, (ge σ) ||| (gbit (gn σ)), glf σ, grt σ, gst σ, gpc σ, gpf σ, va_up ((glo σ)) (gn σ) x, va_up ((ghi σ)) (gn σ) y, gwt σ, upd ((ggr σ)) (gn σ) ((-1)), gsu σ, gho σ, ghs σ, vp_updL ((grb σ)) (gn σ) (gbit (gn σ))) (gn σ)), gsu (gSeE (gn σ, gk σ, gc σ, gs σ, (ge σ) ||| (gbit (gn σ)), glf σ, grt σ, gst σ, gpc σ, gpf σ, va_up ((glo σ)) (gn σ) x, va_up ((ghi σ)) (gn σ) y, gwt σ, upd ((ggr σ)) (gn σ) ((-1)), gsu σ, gho σ, ghs σ, vp_updL ((grb σ)) (gn σ) (gbit (gn σ))) (gn σ)), gho (gSeE (gn σ, gk σ, gc σ, gs σ, (ge σ) ||| (gbit (gn σ)), glf σ, grt σ, gst σ, gpc σ, gpf σ, va_up ((glo σ)) (gn σ) x, va_up ((ghi σ)) (gn σ) y, gwt σ, upd ((ggr σ)) (gn σ) ((-1)), gsu σ, gho σ, ghs σ, vp_updL ((grb σ)) (gn σ) (gbit (gn σ))) (gn σ)), ghs (gSeE (gn σ, gk σ, gc σ, gs σ, (ge σ) ||| (gbit (gn σ)), glf σ, grt σ, gst σ, gpc σ, gpf σ, va_up ((glo σ)) (gn σ) x, va_up ((ghi σ)) (gn σ) y, gwt σ, upd ((ggr σ)) (gn σ) ((-1)), gsu σ, gho σ, ghs σ, vp_updL ((grb σ)) (gn σ) (gbit (gn σ))) (gn σ)), grb (gSeE (gn σ, gk σ, gc σ, gs σ, (ge σ) ||| (gbit (gn σ)), glf σ, grt σ, gst σ, gpc σ, gpf σ, va_up ((glo σ)) (gn σ) x, va_up ((ghi σ)) (gn σ) y, gwt σ, upd ((ggr σ)) (gn σ) ((-1)), gsu σ, gho σ, ghs σ, vp_updL ((grb σ)) (gn σ) (gbit (gn σ))) (gn σ)))) H := hP
  have hD : va_D (va_A (gW E a σ) s.heap.size) (gW E a ((gn (gSeE (gn σ, gk σ, gc σ, gs σ, (ge σ) ||| (gbit (gn σ)), glf σ, grt σ, gst σ, gpc σ, gpf σ, va_up ((glo σ)) (gn σ) x, va_up ((ghi σ)) (gn σ) y, gwt σ, upd ((ggr σ)) (gn σ) ((-1)), gsu σ, gho σ, ghs σ, vp_updL ((grb σ)) (gn σ) (gbit (gn σ))) (gn σ))) + 1, gk (gSeE (gn σ, gk σ, gc σ, gs σ, (ge σ) ||| (gbit (gn σ)), glf σ, grt σ, gst σ, gpc σ, gpf σ, va_up ((glo σ)) (gn σ) x, va_up ((ghi σ)) (gn σ) y, gwt σ, upd ((ggr σ)) (gn σ) ((-1)), gsu σ, gho σ, ghs σ, vp_updL ((grb σ)) (gn σ) (gbit (gn σ))) (gn σ)), gc (gSeE (gn σ, gk σ, gc σ, gs σ, (ge σ) ||| (gbit (gn σ)), glf σ, grt σ, gst σ, gpc σ, gpf σ, va_up ((glo σ)) (gn σ) x, va_up ((ghi σ)) (gn σ) y, gwt σ, upd ((ggr σ)) (gn σ) ((-1)), gsu σ, gho σ, ghs σ, vp_updL ((grb σ)) (gn σ) (gbit (gn σ))) (gn σ)), gs (gSeE (gn σ, gk σ, gc σ, gs σ, (ge σ) ||| (gbit (gn σ)), glf σ, grt σ, gst σ, gpc σ, gpf σ, va_up ((glo σ)) (gn σ) x, va_up ((ghi σ)) (gn σ) y, gwt σ, upd ((ggr σ)) (gn σ) ((-1)), gsu σ, gho σ, ghs σ, vp_updL ((grb σ)) (gn σ) (gbit (gn σ))) (gn σ)), ge (gSeE (gn σ, gk σ, gc σ, gs σ, (ge σ) ||| (gbit (gn σ)), glf σ, grt σ, gst σ, gpc σ, gpf σ, va_up ((glo σ)) (gn σ) x, va_up ((ghi σ)) (gn σ) y, gwt σ, upd ((ggr σ)) (gn σ) ((-1)), gsu σ, gho σ, ghs σ, vp_updL ((grb σ)) (gn σ) (gbit (gn σ))) (gn σ)), glf (gSeE (gn σ, gk σ, gc σ, gs σ, (ge σ) ||| (gbit (gn σ)), glf σ, grt σ, gst σ, gpc σ, gpf σ, va_up ((glo σ)) (gn σ) x, va_up ((ghi σ)) (gn σ) y, gwt σ, upd ((ggr σ)) (gn σ) ((-1)), gsu σ, gho σ, ghs σ, vp_updL ((grb σ)) (gn σ) (gbit (gn σ))) (gn σ)), grt (gSeE (gn σ, gk σ, gc σ, gs σ, (ge σ) ||| (gbit (gn σ)), glf σ, grt σ, gst σ, gpc σ, gpf σ, va_up ((glo σ)) (gn σ) x, va_up ((ghi σ)) (gn σ) y, gwt σ, upd ((ggr σ)) (gn σ) ((-1)), gsu σ, gho σ, ghs σ, vp_updL ((grb σ)) (gn σ) (gbit (gn σ))) (gn σ)), gst (gSeE (gn σ, gk σ, gc σ, gs σ, (ge σ) ||| (gbit (gn σ)), glf σ, grt σ, gst σ, gpc σ, gpf σ, va_up ((glo σ)) (gn σ) x, va_up ((ghi σ)) (gn σ) y, gwt σ, upd ((ggr σ)) (gn σ) ((-1)), gsu σ, gho σ, ghs σ, vp_updL ((grb σ)) (gn σ) (gbit (gn σ))) (gn σ)), gpc (gSeE (gn σ, gk σ, gc σ, gs σ, (ge σ) ||| (gbit (gn σ)), glf σ, grt σ, gst σ, gpc σ, gpf σ, va_up ((glo σ)) (gn σ) x, va_up ((ghi σ)) (gn σ) y, gwt σ, upd ((ggr σ)) (gn σ) ((-1)), gsu σ, gho σ, ghs σ, vp_updL ((grb σ)) (gn σ) (gbit (gn σ))) (gn σ)), gpf (gSeE (gn σ, gk σ, gc σ, gs σ, (ge σ) ||| (gbit (gn σ)), glf σ, grt σ, gst σ, gpc σ, gpf σ, va_up ((glo σ)) (gn σ) x, va_up ((ghi σ)) (gn σ) y, gwt σ, upd ((ggr σ)) (gn σ) ((-1)), gsu σ, gho σ, ghs σ, vp_updL ((grb σ)) (gn σ) (gbit (gn σ))) (gn σ)), glo (gSeE (gn σ, gk σ, gc σ, gs σ, (ge σ) ||| (gbit (gn σ)), glf σ, grt σ, gst σ, gpc σ, gpf σ, va_up ((glo σ)) (gn σ) x, va_up ((ghi σ)) (gn σ) y, gwt σ, upd ((ggr σ)) (gn σ) ((-1)), gsu σ, gho σ, ghs σ, vp_updL ((grb σ)) (gn σ) (gbit (gn σ))) (gn σ)), ghi (gSeE (gn σ, gk σ, gc σ, gs σ, (ge σ) ||| (gbit (gn σ)), glf σ, grt σ, gst σ, gpc σ, gpf σ, va_up ((glo σ)) (gn σ) x, va_up ((ghi σ)) (gn σ) y, gwt σ, upd ((ggr σ)) (gn σ) ((-1)), gsu σ, gho σ, ghs σ, vp_updL ((grb σ)) (gn σ) (gbit (gn σ))) (gn σ)), gwt (gSeE (gn σ, gk σ, gc σ, gs σ, (ge σ) ||| (gbit (gn σ)), glf σ, grt σ, gst σ, gpc σ, gpf σ, va_up ((glo σ)) (gn σ) x, va_up ((ghi σ)) (gn σ) y, gwt σ, upd ((ggr σ)) (gn σ) ((-1)), gsu σ, gho σ, ghs σ, vp_updL ((grb σ)) (gn σ) (gbit (gn σ))) (gn σ)), ggr (gSeE (gn σ, gk σ, gc σ, gs σ, (ge σ) ||| (gbit (gn σ)), glf σ, grt σ, gst σ, gpc σ, gpf σ, va_up ((glo σ)) (gn σ) x, va_up ((ghi σ)) (gn σ) y, gwt σ, upd ((ggr σ)) (gn σ) ((-1)), gsu σ, gho σ, ghs σ, vp_updL ((grb σ)) (gn σ) (gbit (gn σ))) (gn σ)), gsu (gSeE (gn σ, gk σ, gc σ, gs σ, (ge σ) ||| (gbit (gn σ)), glf σ, grt σ, gst σ, gpc σ, gpf σ, va_up ((glo σ)) (gn σ) x, va_up ((ghi σ)) (gn σ) y, gwt σ, upd ((ggr σ)) (gn σ) ((-1)), gsu σ, gho σ, ghs σ, vp_updL ((grb σ)) (gn σ) (gbit (gn σ))) (gn σ)), gho (gSeE (gn σ, gk σ, gc σ, gs σ, (ge σ) ||| (gbit (gn σ)), glf σ, grt σ, gst σ, gpc σ, gpf σ, va_up ((glo σ)) (gn σ) x, va_up ((ghi σ)) (gn σ) y, gwt σ, upd ((ggr σ)) (gn σ) ((-1)), gsu σ, gho σ, ghs σ, vp_updL ((grb σ)) (gn σ) (gbit (gn σ))) (gn σ)), ghs (gSeE (gn σ, gk σ, gc σ, gs σ, (ge σ) ||| (gbit (gn σ)), glf σ, grt σ, gst σ, gpc σ, gpf σ, va_up ((glo σ)) (gn σ) x, va_up ((ghi σ)) (gn σ) y, gwt σ, upd ((ggr σ)) (gn σ) ((-1)), gsu σ, gho σ, ghs σ, vp_updL ((grb σ)) (gn σ) (gbit (gn σ))) (gn σ)), grb (gSeE (gn σ, gk σ, gc σ, gs σ, (ge σ) ||| (gbit (gn σ)), glf σ, grt σ, gst σ, gpc σ, gpf σ, va_up ((glo σ)) (gn σ) x, va_up ((ghi σ)) (gn σ) y, gwt σ, upd ((ggr σ)) (gn σ) ((-1)), gsu σ, gho σ, ghs σ, vp_updL ((grb σ)) (gn σ) (gbit (gn σ))) (gn σ)))) := hD
  refine lv_iload_n hx hb dX0_addExam_101 rfl (lv_at hl 0 rfl) ?_
  exact W.iret hx hb hr (fun t ht hW => ⟨⟨_, (), rfl, rfl, by show gP E _ t.heap; rw [ht]; exact hP⟩, hS.F ht⟩) hS.2.2 dX0_addExam_102
theorem hinX0_addFork : ∀ w ∈ wsX00, w ∈ wsX0_addFork := fun w h => List.mem_cons_of_mem _ (List.mem_append_left _ (List.mem_append_left _ (List.mem_append_left _ (List.mem_append_right _ h))))
theorem hdX0_addFork : yX0_addFork.cls = RX0 ∧ yX0_addFork.cls ≠ "java/lang/invoke/MethodHandle" ∧ yX0_addFork.cls ≠ "java/lang/invoke/VarHandle" ∧ (parseMethodDescriptor yX0_addFork.desc).map (fun d => d.parameters.length) = some 3 := by decide +kernel
set_option maxHeartbeats 4000000 in
set_option maxRecDepth 100000 in
theorem c_addFork (l : Launch) (E : GE) (a : Nat → Nat) (σ : GS) (sz : Nat) (hO : GOK σ) (x y : Nat) (hx : x < gn σ) (hy : y < gn σ) (w : Int32) (h1 : ¬ w < 1) (h9 : w ≤ nI 9) (hn : gn σ < 40) : Met l yX0_addFork wsX0_addFork { frames := 3, cells := 0, slots := 0, locals := 65 } (va_Pc [.ref (a 0), .int (nI x), .int (nI y), .int w] (gBw E sz (gW E a σ))) (gQi E (nI (gn σ)) (gW E a σ) (gW E a (gAddF σ x y w)) sz) 0 0 (va_A (gW E a σ) sz) := by
  refine w_met (cc := cX0_addFork) (maxL := 5) (ret := (some .int)) (by decide) rfl (Nat.le_of_ble_eq_true rfl) ?_
  intro p e s m below meth c ls S hr hlocks hname hB hl
  obtain ⟨hsz, hP, hK, hD0⟩ := hB
  subst hsz
  have hD := hD0.self (sz := s.heap.size)
  have hA : ∀ q : Nat, s.heap.size ≤ q → va_A (gW E a σ) s.heap.size q := fun q h => Or.inr h
  have hS : va_S (va_A (gW E a σ) s.heap.size) s.heap s.heap [] := va_S.rf
  obtain ⟨hx, hb, hml, hown, hts⟩ := id S
  have hts0 := hinX0_addFork
  have hl : lv_has ls 5 [(0, .ref (a 0)), (1, .int (nI x)), (2, .int (nI y)), (3, .int w)] := hl
  refine lv_aload_n hx hb dX0_addFork_0 rfl (lv_at hl 0 rfl) ?_
  refine lv_iload_n hx hb dX0_addFork_1 rfl (lv_at hl 1 rfl) ?_
  refine g0v (As := [.int (nI x)]) (rest := []) S (c_requirePlace l E a σ x (by omega) (by omega)) (cwV 1 hts gX0_addFork_X0_requirePlace rfl rfl rfl hdX0_requirePlace ⟨Nat.le_of_ble_eq_true rfl, Nat.le_of_ble_eq_true rfl⟩) hK hP rfl hl.1 rfl (Nat.le_of_ble_eq_true rfl) ⟨Nat.zero_le _, Nat.zero_le _⟩ dX0_addFork_2 ?_
  refine lv_aload_n hx hb dX0_addFork_5 rfl (lv_at hl 0 rfl) ?_
  refine lv_iload_n hx hb dX0_addFork_6 rfl (lv_at hl 2 rfl) ?_
  refine g0v (As := [.int (nI y)]) (rest := []) S (c_requirePlace l E a σ y (by omega) (by omega)) (cwV 1 hts gX0_addFork_X0_requirePlace rfl rfl rfl hdX0_requirePlace ⟨Nat.le_of_ble_eq_true rfl, Nat.le_of_ble_eq_true rfl⟩) hK hP rfl hl.1 rfl (Nat.le_of_ble_eq_true rfl) ⟨Nat.zero_le _, Nat.zero_le _⟩ dX0_addFork_7 ?_
  refine lv_iload_n hx hb dX0_addFork_10 rfl (lv_at hl 3 rfl) ?_
  refine g_sv (As := [.int w]) (rest := []) S (c_requireWeight l E w h1 h9) (va_cwS 1 hts gX0_addFork_X0_requireWeight rfl rfl rfl hdX0_requireWeight.2 ⟨Nat.le_of_ble_eq_true rfl, Nat.le_of_ble_eq_true rfl⟩) hK (fun _ _ h => nomatch h) rfl hl.1 rfl (Nat.le_of_ble_eq_true rfl) ⟨Nat.zero_le _, Nat.zero_le _⟩ dX0_addFork_11 ?_
  refine lv_aload_n hx hb dX0_addFork_14 rfl (lv_at hl 0 rfl) ?_
  refine g0v (As := []) (rest := []) S (c_requireRoom l E a σ (by omega)) (cwV 0 hts gX0_addFork_X0_requireRoom rfl rfl rfl hdX0_requireRoom ⟨Nat.le_of_ble_eq_true rfl, Nat.le_of_ble_eq_true rfl⟩) hK hP rfl hl.1 rfl (Nat.le_of_ble_eq_true rfl) ⟨Nat.zero_le _, Nat.zero_le _⟩ dX0_addFork_15 ?_
  refine lv_aload_n hx hb dX0_addFork_18 rfl (lv_at hl 0 rfl) ?_
  refine g_get (σ := σ) hx hb hts hts0 hown hK hP 0 (by decide) (by decide +kernel) rfl rfl dX0_addFork_19 ?_
  refine lv_istore (lv' := [(4, .int (nI (gn σ))), (0, .ref (a 0)), (1, .int (nI x)), (2, .int (nI y)), (3, .int w)]) hx hb dX0_addFork_22 hl (by decide) rfl (fun ls hl => ?_)
  refine lv_aload_n hx hb dX0_addFork_24 rfl (lv_at hl 1 rfl) ?_
  refine g_get (σ := σ) hx hb hts hts0 hown hK hP 7 (by decide) (by decide +kernel) rfl rfl dX0_addFork_25 ?_
  refine lv_iload hx hb dX0_addFork_28 (lv_at hl 0 rfl) ?_
  refine lv_iload_n hx hb dX0_addFork_30 rfl (lv_at hl 2 rfl) ?_
  refine g_put S gX0_addFork_X0_put hK hP hD hS hA 3 rfl (by decide) (f' := (fun z9 => nI (va_up ((glf σ)) (gn σ) x z9))) (vp_in_nI (by omega) (by decide)) (by rw [nI_clamp (by omega)]; exact n_upd _ _ _) hl.1 (Nat.le_of_ble_eq_true rfl) ⟨Nat.zero_le _, Nat.zero_le _⟩ ⟨Nat.le_of_ble_eq_true rfl, Nat.le_of_ble_eq_true rfl⟩ dX0_addFork_31 (fun H locs hP hD hS => ?_)
  have hP : gP E (gW E a (gn σ, gk σ, gc σ, gs σ, ge σ, va_up ((glf σ)) (gn σ) x, grt σ, gst σ, gpc σ, gpf σ, glo σ, ghi σ, gwt σ, ggr σ, gsu σ, gho σ, ghs σ, grb σ)) H := hP
  have hD : va_D (va_A (gW E a σ) s.heap.size) (gW E a (gn σ, gk σ, gc σ, gs σ, ge σ, va_up ((glf σ)) (gn σ) x, grt σ, gst σ, gpc σ, gpf σ, glo σ, ghi σ, gwt σ, ggr σ, gsu σ, gho σ, ghs σ, grb σ)) := hD
  refine lv_aload_n hx hb dX0_addFork_34 rfl (lv_at hl 1 rfl) ?_
  refine g_get (σ := (gn σ, gk σ, gc σ, gs σ, ge σ, va_up ((glf σ)) (gn σ) x, grt σ, gst σ, gpc σ, gpf σ, glo σ, ghi σ, gwt σ, ggr σ, gsu σ, gho σ, ghs σ, grb σ)) hx hb hts hts0 hown hK hP 8 (by decide) (by decide +kernel) rfl rfl dX0_addFork_35 ?_
  refine lv_iload hx hb dX0_addFork_38 (lv_at hl 0 rfl) ?_
  refine lv_iload_n hx hb dX0_addFork_40 rfl (lv_at hl 3 rfl) ?_
  refine g_put S gX0_addFork_X0_put hK hP hD hS hA 4 rfl (by decide) (f' := (fun z9 => nI (va_up ((grt σ)) (gn σ) y z9))) (vp_in_nI (by omega) (by decide)) (by rw [nI_clamp (by omega)]; exact n_upd _ _ _) hl.1 (Nat.le_of_ble_eq_true rfl) ⟨Nat.zero_le _, Nat.zero_le _⟩ ⟨Nat.le_of_ble_eq_true rfl, Nat.le_of_ble_eq_true rfl⟩ dX0_addFork_41 (fun H locs hP hD hS => ?_)
  have hP : gP E (gW E a (gn σ, gk σ, gc σ, gs σ, ge σ, va_up ((glf σ)) (gn σ) x, va_up ((grt σ)) (gn σ) y, gst σ, gpc σ, gpf σ, glo σ, ghi σ, gwt σ, ggr σ, gsu σ, gho σ, ghs σ, grb σ)) H := hP
  have hD : va_D (va_A (gW E a σ) s.heap.size) (gW E a (gn σ, gk σ, gc σ, gs σ, ge σ, va_up ((glf σ)) (gn σ) x, va_up ((grt σ)) (gn σ) y, gst σ, gpc σ, gpf σ, glo σ, ghi σ, gwt σ, ggr σ, gsu σ, gho σ, ghs σ, grb σ)) := hD
  refine lv_aload_n hx hb dX0_addFork_44 rfl (lv_at hl 1 rfl) ?_
  refine g_get (σ := (gn σ, gk σ, gc σ, gs σ, ge σ, va_up ((glf σ)) (gn σ) x, va_up ((grt σ)) (gn σ) y, gst σ, gpc σ, gpf σ, glo σ, ghi σ, gwt σ, ggr σ, gsu σ, gho σ, ghs σ, grb σ)) hx hb hts hts0 hown hK hP 9 (by decide) (by decide +kernel) rfl rfl dX0_addFork_45 ?_
  refine lv_iload hx hb dX0_addFork_48 (lv_at hl 0 rfl) ?_
  refine lv_iload_n hx hb dX0_addFork_50 rfl (lv_at hl 4 rfl) ?_
  refine g_put S gX0_addFork_X0_put hK hP hD hS hA 5 rfl (by decide) (f' := (upd ((gwt σ)) (gn σ) w)) (vp_in_nI (by omega) (by decide)) (by rw [nI_clamp (by omega)]) hl.1 (Nat.le_of_ble_eq_true rfl) ⟨Nat.zero_le _, Nat.zero_le _⟩ ⟨Nat.le_of_ble_eq_true rfl, Nat.le_of_ble_eq_true rfl⟩ dX0_addFork_51 (fun H locs hP hD hS => ?_)
  have hP : gP E (gW E a (gn σ, gk σ, gc σ, gs σ, ge σ, va_up ((glf σ)) (gn σ) x, va_up ((grt σ)) (gn σ) y, gst σ, gpc σ, gpf σ, glo σ, ghi σ, upd ((gwt σ)) (gn σ) w, ggr σ, gsu σ, gho σ, ghs σ, grb σ)) H := hP
  have hD : va_D (va_A (gW E a σ) s.heap.size) (gW E a (gn σ, gk σ, gc σ, gs σ, ge σ, va_up ((glf σ)) (gn σ) x, va_up ((grt σ)) (gn σ) y, gst σ, gpc σ, gpf σ, glo σ, ghi σ, upd ((gwt σ)) (gn σ) w, ggr σ, gsu σ, gho σ, ghs σ, grb σ)) := hD
  refine lv_aload_n hx hb dX0_addFork_54 rfl (lv_at hl 1 rfl) ?_
  refine g_get (σ := (gn σ, gk σ, gc σ, gs σ, ge σ, va_up ((glf σ)) (gn σ) x, va_up ((grt σ)) (gn σ) y, gst σ, gpc σ, gpf σ, glo σ, ghi σ, upd ((gwt σ)) (gn σ) w, ggr σ, gsu σ, gho σ, ghs σ, grb σ)) hx hb hts hts0 hown hK hP 10 (by decide) (by decide +kernel) rfl rfl dX0_addFork_55 ?_
  refine lv_iload hx hb dX0_addFork_58 (lv_at hl 0 rfl) ?_
  refine lv_iconst (v := -1) hx hb dX0_addFork_60 (by decide) ?_
  refine g_put S gX0_addFork_X0_put hK hP hD hS hA 6 rfl (by decide) (f' := (upd ((ggr σ)) (gn σ) ((-1)))) (vp_in_nI (by omega) (by decide)) (by rw [nI_clamp (by omega)]) hl.1 (Nat.le_of_ble_eq_true rfl) ⟨Nat.zero_le _, Nat.zero_le _⟩ ⟨Nat.le_of_ble_eq_true rfl, Nat.le_of_ble_eq_true rfl⟩ dX0_addFork_61 (fun H locs hP hD hS => ?_)
  have hP : gP E (gW E a (gn σ, gk σ, gc σ, gs σ, ge σ, va_up ((glf σ)) (gn σ) x, va_up ((grt σ)) (gn σ) y, gst σ, gpc σ, gpf σ, glo σ, ghi σ, upd ((gwt σ)) (gn σ) w, upd ((ggr σ)) (gn σ) ((-1)), gsu σ, gho σ, ghs σ, grb σ)) H := hP
  have hD : va_D (va_A (gW E a σ) s.heap.size) (gW E a (gn σ, gk σ, gc σ, gs σ, ge σ, va_up ((glf σ)) (gn σ) x, va_up ((grt σ)) (gn σ) y, gst σ, gpc σ, gpf σ, glo σ, ghi σ, upd ((gwt σ)) (gn σ) w, upd ((ggr σ)) (gn σ) ((-1)), gsu σ, gho σ, ghs σ, grb σ)) := hD
  refine lv_aload_n hx hb dX0_addFork_64 rfl (lv_at hl 1 rfl) ?_
  refine g_get (σ := (gn σ, gk σ, gc σ, gs σ, ge σ, va_up ((glf σ)) (gn σ) x, va_up ((grt σ)) (gn σ) y, gst σ, gpc σ, gpf σ, glo σ, ghi σ, upd ((gwt σ)) (gn σ) w, upd ((ggr σ)) (gn σ) ((-1)), gsu σ, gho σ, ghs σ, grb σ)) hx hb hts hts0 hown hK hP 14 (by decide) (by decide +kernel) rfl rfl dX0_addFork_65 ?_
  refine lv_iload hx hb dX0_addFork_68 (lv_at hl 0 rfl) ?_
  refine lv_iload hx hb dX0_addFork_70 (lv_at hl 0 rfl) ?_
  refine g_bitOf S gX0_addFork_X0_bitOf hK (k := gn σ) (by omega) hl.1 (Nat.le_of_ble_eq_true rfl) ⟨Nat.zero_le _, Nat.zero_le _⟩ ⟨Nat.le_of_ble_eq_true rfl, Nat.le_of_ble_eq_true rfl⟩ dX0_addFork_72 ?_
  refine lv_aload_n hx hb dX0_addFork_75 rfl (lv_at hl 1 rfl) ?_
  refine g_get (σ := (gn σ, gk σ, gc σ, gs σ, ge σ, va_up ((glf σ)) (gn σ) x, va_up ((grt σ)) (gn σ) y, gst σ, gpc σ, gpf σ, glo σ, ghi σ, upd ((gwt σ)) (gn σ) w, upd ((ggr σ)) (gn σ) ((-1)), gsu σ, gho σ, ghs σ, grb σ)) hx hb hts hts0 hown hK hP 14 (by decide) (by decide +kernel) rfl rfl dX0_addFork_76 ?_
  refine lv_iload_n hx hb dX0_addFork_79 rfl (lv_at hl 2 rfl) ?_
  refine g_bitsAt S gX0_addFork_X0_bitsAt hK hP 10 rfl (by decide) (v := (grb σ) x) (vp_in_nI (by omega) (by decide)) (by rw [nI_clamp (by omega)]) hl.1 (Nat.le_of_ble_eq_true rfl) ⟨Nat.zero_le _, Nat.zero_le _⟩ ⟨Nat.le_of_ble_eq_true rfl, Nat.le_of_ble_eq_true rfl⟩ dX0_addFork_80 ?_
  refine lv_lor hx hb dX0_addFork_83 ?_
  refine lv_aload_n hx hb dX0_addFork_84 rfl (lv_at hl 1 rfl) ?_
  refine g_get (σ := (gn σ, gk σ, gc σ, gs σ, ge σ, va_up ((glf σ)) (gn σ) x, va_up ((grt σ)) (gn σ) y, gst σ, gpc σ, gpf σ, glo σ, ghi σ, upd ((gwt σ)) (gn σ) w, upd ((ggr σ)) (gn σ) ((-1)), gsu σ, gho σ, ghs σ, grb σ)) hx hb hts hts0 hown hK hP 14 (by decide) (by decide +kernel) rfl rfl dX0_addFork_85 ?_
  refine lv_iload_n hx hb dX0_addFork_88 rfl (lv_at hl 3 rfl) ?_
  refine g_bitsAt S gX0_addFork_X0_bitsAt hK hP 10 rfl (by decide) (v := (grb σ) y) (vp_in_nI (by omega) (by decide)) (by rw [nI_clamp (by omega)]) hl.1 (Nat.le_of_ble_eq_true rfl) ⟨Nat.zero_le _, Nat.zero_le _⟩ ⟨Nat.le_of_ble_eq_true rfl, Nat.le_of_ble_eq_true rfl⟩ dX0_addFork_89 ?_
  refine lv_lor hx hb dX0_addFork_92 ?_
  refine g_putBits S gX0_addFork_X0_putBits hK hP hD hS hA 10 rfl (by decide) (f' := (vp_updL ((grb σ)) (gn σ) (((gbit (gn σ)) ||| ((grb σ) x)) ||| ((grb σ) y)))) (vp_in_nI (by omega) (by decide)) (by rw [nI_clamp (by omega)]) hl.1 (Nat.le_of_ble_eq_true rfl) ⟨Nat.zero_le _, Nat.zero_le _⟩ ⟨Nat.le_of_ble_eq_true rfl, Nat.le_of_ble_eq_true rfl⟩ dX0_addFork_93 (fun H locs hP hD hS => ?_)
  have hP : gP E (gW E a (gn σ, gk σ, gc σ, gs σ, ge σ, va_up ((glf σ)) (gn σ) x, va_up ((grt σ)) (gn σ) y, gst σ, gpc σ, gpf σ, glo σ, ghi σ, upd ((gwt σ)) (gn σ) w, upd ((ggr σ)) (gn σ) ((-1)), gsu σ, gho σ, ghs σ, vp_updL ((grb σ)) (gn σ) (((gbit (gn σ)) ||| ((grb σ) x)) ||| ((grb σ) y)))) H := hP
  have hD : va_D (va_A (gW E a σ) s.heap.size) (gW E a (gn σ, gk σ, gc σ, gs σ, ge σ, va_up ((glf σ)) (gn σ) x, va_up ((grt σ)) (gn σ) y, gst σ, gpc σ, gpf σ, glo σ, ghi σ, upd ((gwt σ)) (gn σ) w, upd ((ggr σ)) (gn σ) ((-1)), gsu σ, gho σ, ghs σ, vp_updL ((grb σ)) (gn σ) (((gbit (gn σ)) ||| ((grb σ) x)) ||| ((grb σ) y)))) := hD
  refine lv_aload_n hx hb dX0_addFork_96 rfl (lv_at hl 1 rfl) ?_
  refine lv_iload hx hb dX0_addFork_97 (lv_at hl 0 rfl) ?_
  refine g0w (As := [.int (nI (gn σ))]) (rest := []) (σ' := gSeF (gn σ, gk σ, gc σ, gs σ, ge σ, va_up ((glf σ)) (gn σ) x, va_up ((grt σ)) (gn σ) y, gst σ, gpc σ, gpf σ, glo σ, ghi σ, upd ((gwt σ)) (gn σ) w, upd ((ggr σ)) (gn σ) ((-1)), gsu σ, gho σ, ghs σ, vp_updL ((grb σ)) (gn σ) (((gbit (gn σ)) ||| ((grb σ) x)) ||| ((grb σ) y))) (gn σ)) S (c_settleFork l E a (gn σ, gk σ, gc σ, gs σ, ge σ, va_up ((glf σ)) (gn σ) x, va_up ((grt σ)) (gn σ) y, gst σ, gpc σ, gpf σ, glo σ, ghi σ, upd ((gwt σ)) (gn σ) w, upd ((ggr σ)) (gn σ) ((-1)), gsu σ, gho σ, ghs σ, vp_updL ((grb σ)) (gn σ) (((gbit (gn σ)) ||| ((grb σ) x)) ||| ((grb σ) y))) _ (gn σ) (by omega) (by show va_up (glf σ) (gn σ) x (gn σ) < 40; rw [va_up_self]; omega) (by show va_up (grt σ) (gn σ) y (gn σ) < 40; rw [va_up_self]; omega)) (cwV 1 hts gX0_addFork_X0_settleFork rfl rfl rfl hdX0_settleFork ⟨Nat.le_of_ble_eq_true rfl, Nat.le_of_ble_eq_true rfl⟩) hK hP hD hS hA rfl hl.1 rfl (Nat.le_of_ble_eq_true rfl) ⟨Nat.zero_le _, Nat.zero_le _⟩ dX0_addFork_99 (fun H locs hP hD hS => ?_)
  refine lv_aload_n hx hb dX0_addFork_102 rfl (lv_at hl 1 rfl) ?_
  refine lv_dup hx hb dX0_addFork_103 rfl ?_
  refine g_get (σ := (gSeF (gn σ, gk σ, gc σ, gs σ, ge σ, va_up ((glf σ)) (gn σ) x, va_up ((grt σ)) (gn σ) y, gst σ, gpc σ, gpf σ, glo σ, ghi σ, upd ((gwt σ)) (gn σ) w, upd ((ggr σ)) (gn σ) ((-1)), gsu σ, gho σ, ghs σ, vp_updL ((grb σ)) (gn σ) (((gbit (gn σ)) ||| ((grb σ) x)) ||| ((grb σ) y))) (gn σ))) hx hb hts hts0 hown hK hP 0 (by decide) (by decide +kernel) rfl rfl dX0_addFork_104 ?_
  refine lv_iconst (v := 1) hx hb dX0_addFork_107 (by decide) ?_
  refine lv_iadd hx hb dX0_addFork_108 ?_
  rw [nI_1 (gn (gSeF (gn σ, gk σ, gc σ, gs σ, ge σ, va_up ((glf σ)) (gn σ) x, va_up ((grt σ)) (gn σ) y, gst σ, gpc σ, gpf σ, glo σ, ghi σ, upd ((gwt σ)) (gn σ) w, upd ((ggr σ)) (gn σ) ((-1)), gsu σ, gho σ, ghs σ, vp_updL ((grb σ)) (gn σ) (((gbit (gn σ)) ||| ((grb σ) x)) ||| ((grb σ) y))) (gn σ)))]
  refine va_put (D := E.1) (ci := 0) (v := .int (nI ((gn (gSeF (gn σ, gk σ, gc σ, gs σ, ge σ, va_up ((glf σ)) (gn σ) x, va_up ((grt σ)) (gn σ) y, gst σ, gpc σ, gpf σ, glo σ, ghi σ, upd ((gwt σ)) (gn σ) w, upd ((ggr σ)) (gn σ) ((-1)), gsu σ, gho σ, ghs σ, vp_updL ((grb σ)) (gn σ) (((gbit (gn σ)) ||| ((grb σ) x)) ||| ((grb σ) y))) (gn σ))) + 1))) (ty := .int) (C := RX0) (T := TX0) (N := 18) hx hb hts hts0 tyX0 tyX0_ok nmX0 hown hK hP hD hS 0 rfl rfl 0 (by decide) (hts (.fieldLink RX0 60 "ExamGarden" "placeCount" "I") (by decide +kernel)) (fun _ h9 => h9) rfl (by decide +kernel) rfl rfl (Nat.le_of_ble_eq_true rfl) dX0_addFork_109 (fun H locs hP hD hS => ?_)
  have hP : gP E (gW E a ((gn (gSeF (gn σ, gk σ, gc σ, gs σ, ge σ, va_up ((glf σ)) (gn σ) x, va_up ((grt σ)) (gn σ) y, gst σ, gpc σ, gpf σ, glo σ, ghi σ, upd ((gwt σ)) (gn σ) w, upd ((ggr σ)) (gn σ) ((-1)), gsu σ, gho σ, ghs σ, vp_updL ((grb σ)) (gn σ) (((gbit (gn σ)) ||| ((grb σ) x)) ||| ((grb σ) y))) (gn σ))) + 1, gk (gSeF (gn σ, gk σ, gc σ, gs σ, ge σ, va_up ((glf σ)) (gn σ) x, va_up ((grt σ)) (gn σ) y, gst σ, gpc σ, gpf σ, glo σ, ghi σ, upd ((gwt σ)) (gn σ) w, upd ((ggr σ)) (gn σ) ((-1)), gsu σ, gho σ, ghs σ, vp_updL ((grb σ)) (gn σ) (((gbit (gn σ)) ||| ((grb σ) x)) ||| ((grb σ) y))) (gn σ)), gc (gSeF (gn σ, gk σ, gc σ, gs σ, ge σ, va_up ((glf σ)) (gn σ) x, va_up ((grt σ)) (gn σ) y, gst σ, gpc σ, gpf σ, glo σ, ghi σ, upd ((gwt σ)) (gn σ) w, upd ((ggr σ)) (gn σ) ((-1)), gsu σ, gho σ, ghs σ, vp_updL ((grb σ)) (gn σ) (((gbit (gn σ)) ||| ((grb σ) x)) ||| ((grb σ) y))) (gn σ)), gs (gSeF (gn σ, gk σ, gc σ, gs σ, ge σ, va_up ((glf σ)) (gn σ) x, va_up ((grt σ)) (gn σ) y, gst σ, gpc σ, gpf σ, glo σ, ghi σ, upd ((gwt σ)) (gn σ) w, upd ((ggr σ)) (gn σ) ((-1)), gsu σ, gho σ, ghs σ, vp_updL ((grb σ)) (gn σ) (((gbit (gn σ)) ||| ((grb σ) x)) ||| ((grb σ) y))) (gn σ)), ge (gSeF (gn σ, gk σ, gc σ, gs σ, ge σ, va_up ((glf σ)) (gn σ) x, va_up ((grt σ)) (gn σ) y, gst σ, gpc σ, gpf σ, glo σ, ghi σ, upd ((gwt σ)) (gn σ) w, upd ((ggr σ)) (gn σ) ((-1)), gsu σ, gho σ, ghs σ, vp_updL ((grb σ)) (gn σ) (((gbit (gn σ)) ||| ((grb σ) x)) ||| ((grb σ) y))) (gn σ)), glf (gSeF (gn σ, gk σ, gc σ, gs σ, ge σ, va_up ((glf σ)) (gn σ) x, va_up ((grt σ)) (gn σ) y, gst σ, gpc σ, gpf σ, glo σ, ghi σ, upd ((gwt σ)) (gn σ) w, upd ((ggr σ)) (gn σ) ((-1)), gsu σ, gho σ, ghs σ, vp_updL ((grb σ)) (gn σ) (((gbit (gn σ)) ||| ((grb σ) x)) ||| ((grb σ) y))) (gn σ)), grt (gSeF (gn σ, gk σ, gc σ, gs σ, ge σ, va_up ((glf σ)) (gn σ) x, va_up ((grt σ)) (gn σ) y, gst σ, gpc σ, gpf σ, glo σ, ghi σ, upd ((gwt σ)) (gn σ) w, upd ((ggr σ)) (gn σ) ((-1)), gsu σ, gho σ, ghs σ, vp_updL ((grb σ)) (gn σ) (((gbit (gn σ)) ||| ((grb σ) x)) ||| ((grb σ) y))) (gn σ)), gst (gSeF (gn σ, gk σ, gc σ, gs σ, ge σ, va_up ((glf σ)) (gn σ) x, va_up ((grt σ)) (gn σ) y, gst σ, gpc σ, gpf σ, glo σ, ghi σ, upd ((gwt σ)) (gn σ) w, upd ((ggr σ)) (gn σ) ((-1)), gsu σ, gho σ, ghs σ, vp_updL ((grb σ)) (gn σ) (((gbit (gn σ)) ||| ((grb σ) x)) ||| ((grb σ) y))) (gn σ)), gpc (gSeF (gn σ, gk σ, gc σ, gs σ, ge σ, va_up ((glf σ)) (gn σ) x, va_up ((grt σ)) (gn σ) y, gst σ, gpc σ, gpf σ, glo σ, ghi σ, upd ((gwt σ)) (gn σ) w, upd ((ggr σ)) (gn σ) ((-1)), gsu σ, gho σ, ghs σ, vp_updL ((grb σ)) (gn σ) (((gbit (gn σ)) ||| ((grb σ) x)) ||| ((grb σ) y))) (gn σ)), gpf (gSeF (gn σ, gk σ, gc σ, gs σ, ge σ, va_up ((glf σ)) (gn σ) x, va_up ((grt σ)) (gn σ) y, gst σ, gpc σ, gpf σ, glo σ, ghi σ, upd ((gwt σ)) (gn σ) w, upd ((ggr σ)) (gn σ) ((-1)), gsu σ, gho σ, ghs σ, vp_updL ((grb σ)) (gn σ) (((gbit (gn σ)) ||| ((grb σ) x)) ||| ((grb σ) y))) (gn σ)), glo (gSeF (gn σ, gk σ, gc σ, gs σ, ge σ, va_up ((glf σ)) (gn σ) x, va_up ((grt σ)) (gn σ) y, gst σ, gpc σ, gpf σ, glo σ, ghi σ, upd ((gwt σ)) (gn σ) w, upd ((ggr σ)) (gn σ) ((-1)), gsu σ, gho σ, ghs σ, vp_updL ((grb σ)) (gn σ) (((gbit (gn σ)) ||| ((grb σ) x)) ||| ((grb σ) y))) (gn σ)), ghi (gSeF (gn σ, gk σ, gc σ, gs σ, ge σ, va_up ((glf σ)) (gn σ) x, va_up ((grt σ)) (gn σ) y, gst σ, gpc σ, gpf σ, glo σ, ghi σ, upd ((gwt σ)) (gn σ) w, upd ((ggr σ)) (gn σ) ((-1)), gsu σ, gho σ, ghs σ, vp_updL ((grb σ)) (gn σ) (((gbit (gn σ)) ||| ((grb σ) x)) ||| ((grb σ) y))) (gn σ)), gwt (gSeF (gn σ, gk σ, gc σ, gs σ, ge σ, va_up ((glf σ)) (gn σ) x, va_up ((grt σ)) (gn σ) y, gst σ, gpc σ, gpf σ, glo σ, ghi σ, upd ((gwt σ)) (gn σ) w, upd ((ggr σ)) (gn σ) ((-1)), gsu σ, gho σ, ghs σ, vp_updL ((grb σ)) (gn σ) (((gbit (gn σ)) ||| ((grb σ) x)) ||| ((grb σ) y))) (gn σ)), ggr (gSeF (gn σ, gk σ, gc σ, gs σ, ge σ, va_up ((glf σ)) (gn σ) x, va_up ((grt σ)) (gn σ) y, gst σ, gpc σ, gpf σ, glo σ, ghi σ, upd ((gwt σ)) (gn σ) w, upd ((ggr σ)) (gn σ) ((-1)), gsu σ, gho σ, ghs σ, vp_updL ((grb σ)) (gn σ) (((gbit (gn σ)) ||| ((grb σ) x)) ||| ((grb σ) y))) (gn σ)), gsu (gSeF (gn σ, gk σ, gc σ, gs σ, ge σ, va_up ((glf σ)) (gn σ) x, va_up ((grt σ)) (gn σ) y, gst σ, gpc σ, gpf σ, glo σ, ghi σ, upd ((gwt σ)) (gn σ) w, upd ((ggr σ)) (gn σ) ((-1)), gsu σ, gho σ, ghs σ, vp_updL ((grb σ)) (gn σ) (((gbit (gn σ)) ||| ((grb σ) x)) ||| ((grb σ) y))) (gn σ)), gho (gSeF (gn σ, gk σ, gc σ, gs σ, ge σ, va_up ((glf σ)) (gn σ) x, va_up ((grt σ)) (gn σ) y, gst σ, gpc σ, gpf σ, glo σ, ghi σ, upd ((gwt σ)) (gn σ) w, upd ((ggr σ)) (gn σ) ((-1)), gsu σ, gho σ, ghs σ, vp_updL ((grb σ)) (gn σ) (((gbit (gn σ)) ||| ((grb σ) x)) ||| ((grb σ) y))) (gn σ)), ghs (gSeF (gn σ, gk σ, gc σ, gs σ, ge σ, va_up ((glf σ)) (gn σ) x, va_up ((grt σ)) (gn σ) y, gst σ, gpc σ, gpf σ, glo σ, ghi σ, upd ((gwt σ)) (gn σ) w, upd ((ggr σ)) (gn σ) ((-1)), gsu σ, gho σ, ghs σ, vp_updL ((grb σ)) (gn σ) (((gbit (gn σ)) ||| ((grb σ) x)) ||| ((grb σ) y))) (gn σ)), grb (gSeF (gn σ, gk σ, gc σ, gs σ, ge σ, va_up ((glf σ)) (gn σ) x, va_up ((grt σ)) (gn σ) y, gst σ, gpc σ, gpf σ, glo σ, ghi σ, upd ((gwt σ)) (gn σ) w, upd ((ggr σ)) (gn σ) ((-1)), gsu σ, gho σ, ghs σ, vp_updL ((grb σ)) (gn σ) (((gbit (gn σ)) ||| ((grb σ) x)) ||| ((grb σ) y))) (gn σ)))) H := hP
  have hD : va_D (va_A (gW E a σ) s.heap.size) (gW E a ((gn (gSeF (gn σ, gk σ, gc σ, gs σ, ge σ, va_up ((glf σ)) (gn σ) x, va_up ((grt σ)) (gn σ) y, gst σ, gpc σ, gpf σ, glo σ, ghi σ, upd ((gwt σ)) (gn σ) w, upd ((ggr σ)) (gn σ) ((-1)), gsu σ, gho σ, ghs σ, vp_updL ((grb σ)) (gn σ) (((gbit (gn σ)) ||| ((grb σ) x)) ||| ((grb σ) y))) (gn σ))) + 1, gk (gSeF (gn σ, gk σ, gc σ, gs σ, ge σ, va_up ((glf σ)) (gn σ) x, va_up ((grt σ)) (gn σ) y, gst σ, gpc σ, gpf σ, glo σ, ghi σ, upd ((gwt σ)) (gn σ) w, upd ((ggr σ)) (gn σ) ((-1)), gsu σ, gho σ, ghs σ, vp_updL ((grb σ)) (gn σ) (((gbit (gn σ)) ||| ((grb σ) x)) ||| ((grb σ) y))) (gn σ)), gc (gSeF (gn σ, gk σ, gc σ, gs σ, ge σ, va_up ((glf σ)) (gn σ) x, va_up ((grt σ)) (gn σ) y, gst σ, gpc σ, gpf σ, glo σ, ghi σ, upd ((gwt σ)) (gn σ) w, upd ((ggr σ)) (gn σ) ((-1)), gsu σ, gho σ, ghs σ, vp_updL ((grb σ)) (gn σ) (((gbit (gn σ)) ||| ((grb σ) x)) ||| ((grb σ) y))) (gn σ)), gs (gSeF (gn σ, gk σ, gc σ, gs σ, ge σ, va_up ((glf σ)) (gn σ) x, va_up ((grt σ)) (gn σ) y, gst σ, gpc σ, gpf σ, glo σ, ghi σ, upd ((gwt σ)) (gn σ) w, upd ((ggr σ)) (gn σ) ((-1)), gsu σ, gho σ, ghs σ, vp_updL ((grb σ)) (gn σ) (((gbit (gn σ)) ||| ((grb σ) x)) ||| ((grb σ) y))) (gn σ)), ge (gSeF (gn σ, gk σ, gc σ, gs σ, ge σ, va_up ((glf σ)) (gn σ) x, va_up ((grt σ)) (gn σ) y, gst σ, gpc σ, gpf σ, glo σ, ghi σ, upd ((gwt σ)) (gn σ) w, upd ((ggr σ)) (gn σ) ((-1)), gsu σ, gho σ, ghs σ, vp_updL ((grb σ)) (gn σ) (((gbit (gn σ)) ||| ((grb σ) x)) ||| ((grb σ) y))) (gn σ)), glf (gSeF (gn σ, gk σ, gc σ, gs σ, ge σ, va_up ((glf σ)) (gn σ) x, va_up ((grt σ)) (gn σ) y, gst σ, gpc σ, gpf σ, glo σ, ghi σ, upd ((gwt σ)) (gn σ) w, upd ((ggr σ)) (gn σ) ((-1)), gsu σ, gho σ, ghs σ, vp_updL ((grb σ)) (gn σ) (((gbit (gn σ)) ||| ((grb σ) x)) ||| ((grb σ) y))) (gn σ)), grt (gSeF (gn σ, gk σ, gc σ, gs σ, ge σ, va_up ((glf σ)) (gn σ) x, va_up ((grt σ)) (gn σ) y, gst σ, gpc σ, gpf σ, glo σ, ghi σ, upd ((gwt σ)) (gn σ) w, upd ((ggr σ)) (gn σ) ((-1)), gsu σ, gho σ, ghs σ, vp_updL ((grb σ)) (gn σ) (((gbit (gn σ)) ||| ((grb σ) x)) ||| ((grb σ) y))) (gn σ)), gst (gSeF (gn σ, gk σ, gc σ, gs σ, ge σ, va_up ((glf σ)) (gn σ) x, va_up ((grt σ)) (gn σ) y, gst σ, gpc σ, gpf σ, glo σ, ghi σ, upd ((gwt σ)) (gn σ) w, upd ((ggr σ)) (gn σ) ((-1)), gsu σ, gho σ, ghs σ, vp_updL ((grb σ)) (gn σ) (((gbit (gn σ)) ||| ((grb σ) x)) ||| ((grb σ) y))) (gn σ)), gpc (gSeF (gn σ, gk σ, gc σ, gs σ, ge σ, va_up ((glf σ)) (gn σ) x, va_up ((grt σ)) (gn σ) y, gst σ, gpc σ, gpf σ, glo σ, ghi σ, upd ((gwt σ)) (gn σ) w, upd ((ggr σ)) (gn σ) ((-1)), gsu σ, gho σ, ghs σ, vp_updL ((grb σ)) (gn σ) (((gbit (gn σ)) ||| ((grb σ) x)) ||| ((grb σ) y))) (gn σ)), gpf (gSeF (gn σ, gk σ, gc σ, gs σ, ge σ, va_up ((glf σ)) (gn σ) x, va_up ((grt σ)) (gn σ) y, gst σ, gpc σ, gpf σ, glo σ, ghi σ, upd ((gwt σ)) (gn σ) w, upd ((ggr σ)) (gn σ) ((-1)), gsu σ, gho σ, ghs σ, vp_updL ((grb σ)) (gn σ) (((gbit (gn σ)) ||| ((grb σ) x)) ||| ((grb σ) y))) (gn σ)), glo (gSeF (gn σ, gk σ, gc σ, gs σ, ge σ, va_up ((glf σ)) (gn σ) x, va_up ((grt σ)) (gn σ) y, gst σ, gpc σ, gpf σ, glo σ, ghi σ, upd ((gwt σ)) (gn σ) w, upd ((ggr σ)) (gn σ) ((-1)), gsu σ, gho σ, ghs σ, vp_updL ((grb σ)) (gn σ) (((gbit (gn σ)) ||| ((grb σ) x)) ||| ((grb σ) y))) (gn σ)), ghi (gSeF (gn σ, gk σ, gc σ, gs σ, ge σ, va_up ((glf σ)) (gn σ) x, va_up ((grt σ)) (gn σ) y, gst σ, gpc σ, gpf σ, glo σ, ghi σ, upd ((gwt σ)) (gn σ) w, upd ((ggr σ)) (gn σ) ((-1)), gsu σ, gho σ, ghs σ, vp_updL ((grb σ)) (gn σ) (((gbit (gn σ)) ||| ((grb σ) x)) ||| ((grb σ) y))) (gn σ)), gwt (gSeF (gn σ, gk σ, gc σ, gs σ, ge σ, va_up ((glf σ)) (gn σ) x, va_up ((grt σ)) (gn σ) y, gst σ, gpc σ, gpf σ, glo σ, ghi σ, upd ((gwt σ)) (gn σ) w, upd ((ggr σ)) (gn σ) ((-1)), gsu σ, gho σ, ghs σ, vp_updL ((grb σ)) (gn σ) (((gbit (gn σ)) ||| ((grb σ) x)) ||| ((grb σ) y))) (gn σ)), ggr (gSeF (gn σ, gk σ, gc σ, gs σ, ge σ, va_up ((glf σ)) (gn σ) x, va_up ((grt σ)) (gn σ) y, gst σ, gpc σ, gpf σ, glo σ, ghi σ, upd ((gwt σ)) (gn σ) w, upd ((ggr σ)) (gn σ) ((-1)), gsu σ, gho σ, ghs σ, vp_updL ((grb σ)) (gn σ) (((gbit (gn σ)) ||| ((grb σ) x)) ||| ((grb σ) y))) (gn σ)), gsu (gSeF (gn σ, gk σ, gc σ, gs σ, ge σ, va_up ((glf σ)) (gn σ) x, va_up ((grt σ)) (gn σ) y, gst σ, gpc σ, gpf σ, glo σ, ghi σ, upd ((gwt σ)) (gn σ) w, upd ((ggr σ)) (gn σ) ((-1)), gsu σ, gho σ, ghs σ, vp_updL ((grb σ)) (gn σ) (((gbit (gn σ)) ||| ((grb σ) x)) ||| ((grb σ) y))) (gn σ)), gho (gSeF (gn σ, gk σ, gc σ, gs σ, ge σ, va_up ((glf σ)) (gn σ) x, va_up ((grt σ)) (gn σ) y, gst σ, gpc σ, gpf σ, glo σ, ghi σ, upd ((gwt σ)) (gn σ) w, upd ((ggr σ)) (gn σ) ((-1)), gsu σ, gho σ, ghs σ, vp_updL ((grb σ)) (gn σ) (((gbit (gn σ)) ||| ((grb σ) x)) ||| ((grb σ) y))) (gn σ)), ghs (gSeF (gn σ, gk σ, gc σ, gs σ, ge σ, va_up ((glf σ)) (gn σ) x, va_up ((grt σ)) (gn σ) y, gst σ, gpc σ, gpf σ, glo σ, ghi σ, upd ((gwt σ)) (gn σ) w, upd ((ggr σ)) (gn σ) ((-1)), gsu σ, gho σ, ghs σ, vp_updL ((grb σ)) (gn σ) (((gbit (gn σ)) ||| ((grb σ) x)) ||| ((grb σ) y))) (gn σ)), grb (gSeF (gn σ, gk σ, gc σ, gs σ, ge σ, va_up ((glf σ)) (gn σ) x, va_up ((grt σ)) (gn σ) y, gst σ, gpc σ, gpf σ, glo σ, ghi σ, upd ((gwt σ)) (gn σ) w, upd ((ggr σ)) (gn σ) ((-1)), gsu σ, gho σ, ghs σ, vp_updL ((grb σ)) (gn σ) (((gbit (gn σ)) ||| ((grb σ) x)) ||| ((grb σ) y))) (gn σ)))) := hD
  refine lv_iload hx hb dX0_addFork_112 (lv_at hl 0 rfl) ?_
  exact W.iret hx hb hr (fun t ht hW => ⟨⟨_, (), rfl, rfl, by show gP E _ t.heap; rw [ht]; exact hP⟩, hS.F ht⟩) hS.2.2 dX0_addFork_114
theorem hinX0_weigh : ∀ w ∈ wsX00, w ∈ wsX0_weigh := fun w h => List.mem_cons_of_mem _ (List.mem_append_left _ (List.mem_append_left _ (List.mem_append_right _ h)))
theorem hdX0_weigh : yX0_weigh.cls = RX0 ∧ yX0_weigh.cls ≠ "java/lang/invoke/MethodHandle" ∧ yX0_weigh.cls ≠ "java/lang/invoke/VarHandle" ∧ (parseMethodDescriptor yX0_weigh.desc).map (fun d => d.parameters.length) = some 2 := by decide +kernel
set_option maxHeartbeats 4000000 in
set_option maxRecDepth 100000 in
theorem c_weigh (l : Launch) (E : GE) (a : Nat → Nat) (σ : GS) (sz : Nat) (k : Nat) (hn : gn σ ≤ 40) (hk : k < gn σ) (hE : gEx (ge σ) k = false) (w : Int32) (h1 : ¬ w < 1) (h9 : w ≤ nI 9) : Met l yX0_weigh wsX0_weigh { frames := 3, cells := 0, slots := 0, locals := 62 } (va_Pc [.ref (a 0), .int (nI k), .int w] (gBw E sz (gW E a σ))) (gQi E (gwt σ k) (gW E a σ) (gW E a (gWgh σ k w)) sz) 0 0 (va_A (gW E a σ) sz) := by
  refine w_met (cc := cX0_weigh) (maxL := 4) (ret := (some .int)) (by decide) rfl (Nat.le_of_ble_eq_true rfl) ?_
  intro p e s m below meth c ls S hr hlocks hname hB hl
  obtain ⟨hsz, hP, hK, hD0⟩ := hB
  subst hsz
  have hD := hD0.self (sz := s.heap.size)
  have hA : ∀ q : Nat, s.heap.size ≤ q → va_A (gW E a σ) s.heap.size q := fun q h => Or.inr h
  have hS : va_S (va_A (gW E a σ) s.heap.size) s.heap s.heap [] := va_S.rf
  obtain ⟨hx, hb, hml, hown, hts⟩ := id S
  have hts0 := hinX0_weigh
  have hl : lv_has ls 4 [(0, .ref (a 0)), (1, .int (nI k)), (2, .int w)] := hl
  refine lv_aload_n hx hb dX0_weigh_0 rfl (lv_at hl 0 rfl) ?_
  refine lv_iload_n hx hb dX0_weigh_1 rfl (lv_at hl 1 rfl) ?_
  refine g0v (As := [.int (nI k)]) (rest := []) S (c_requireFork l E a σ k (by omega) (by omega) hE) (cwV 1 hts gX0_weigh_X0_requireFork rfl rfl rfl hdX0_requireFork ⟨Nat.le_of_ble_eq_true rfl, Nat.le_of_ble_eq_true rfl⟩) hK hP rfl hl.1 rfl (Nat.le_of_ble_eq_true rfl) ⟨Nat.zero_le _, Nat.zero_le _⟩ dX0_weigh_2 ?_
  refine lv_iload_n hx hb dX0_weigh_5 rfl (lv_at hl 2 rfl) ?_
  refine g_sv (As := [.int w]) (rest := []) S (c_requireWeight l E w h1 h9) (va_cwS 1 hts gX0_weigh_X0_requireWeight rfl rfl rfl hdX0_requireWeight.2 ⟨Nat.le_of_ble_eq_true rfl, Nat.le_of_ble_eq_true rfl⟩) hK (fun _ _ h => nomatch h) rfl hl.1 rfl (Nat.le_of_ble_eq_true rfl) ⟨Nat.zero_le _, Nat.zero_le _⟩ dX0_weigh_6 ?_
  refine lv_aload_n hx hb dX0_weigh_9 rfl (lv_at hl 0 rfl) ?_
  refine g_get (σ := σ) hx hb hts hts0 hown hK hP 9 (by decide) (by decide +kernel) rfl rfl dX0_weigh_10 ?_
  refine lv_iload_n hx hb dX0_weigh_13 rfl (lv_at hl 1 rfl) ?_
  refine g_at S gX0_weigh_X0_at hK hP 5 rfl (by decide) (v := (gwt σ) k) (vp_in_nI (by omega) (by decide)) (by rw [nI_clamp (by omega)]) hl.1 (Nat.le_of_ble_eq_true rfl) ⟨Nat.zero_le _, Nat.zero_le _⟩ ⟨Nat.le_of_ble_eq_true rfl, Nat.le_of_ble_eq_true rfl⟩ dX0_weigh_14 ?_
  refine lv_istore_n (lv' := [(3, .int ((gwt σ) k)), (0, .ref (a 0)), (1, .int (nI k)), (2, .int w)]) hx hb dX0_weigh_17 rfl hl (by decide) rfl (fun ls hl => ?_)
  refine lv_aload_n hx hb dX0_weigh_18 rfl (lv_at hl 1 rfl) ?_
  refine g_get (σ := σ) hx hb hts hts0 hown hK hP 9 (by decide) (by decide +kernel) rfl rfl dX0_weigh_19 ?_
  refine lv_iload_n hx hb dX0_weigh_22 rfl (lv_at hl 2 rfl) ?_
  refine lv_iload_n hx hb dX0_weigh_23 rfl (lv_at hl 3 rfl) ?_
  refine g_put S gX0_weigh_X0_put hK hP hD hS hA 5 rfl (by decide) (f' := (upd ((gwt σ)) k w)) (vp_in_nI (by omega) (by decide)) (by rw [nI_clamp (by omega)]) hl.1 (Nat.le_of_ble_eq_true rfl) ⟨Nat.zero_le _, Nat.zero_le _⟩ ⟨Nat.le_of_ble_eq_true rfl, Nat.le_of_ble_eq_true rfl⟩ dX0_weigh_24 (fun H locs hP hD hS => ?_)
  have hP : gP E (gW E a (gn σ, gk σ, gc σ, gs σ, ge σ, glf σ, grt σ, gst σ, gpc σ, gpf σ, glo σ, ghi σ, upd ((gwt σ)) k w, ggr σ, gsu σ, gho σ, ghs σ, grb σ)) H := hP
  have hD : va_D (va_A (gW E a σ) s.heap.size) (gW E a (gn σ, gk σ, gc σ, gs σ, ge σ, glf σ, grt σ, gst σ, gpc σ, gpf σ, glo σ, ghi σ, upd ((gwt σ)) k w, ggr σ, gsu σ, gho σ, ghs σ, grb σ)) := hD
  refine lv_iload_n hx hb dX0_weigh_27 rfl (lv_at hl 0 rfl) ?_
  exact W.iret hx hb hr (fun t ht hW => ⟨⟨_, (), rfl, rfl, by show gP E _ t.heap; rw [ht]; exact hP⟩, hS.F ht⟩) hS.2.2 dX0_weigh_28
theorem hinX0_enroll : ∀ w ∈ wsX00, w ∈ wsX0_enroll := fun w h => List.mem_cons_of_mem _ (List.mem_append_left _ (List.mem_append_left _ (List.mem_append_right _ h)))
theorem hdX0_enroll : yX0_enroll.cls = RX0 ∧ yX0_enroll.cls ≠ "java/lang/invoke/MethodHandle" ∧ yX0_enroll.cls ≠ "java/lang/invoke/VarHandle" ∧ (parseMethodDescriptor yX0_enroll.desc).map (fun d => d.parameters.length) = some 1 := by decide +kernel
set_option maxHeartbeats 4000000 in
set_option maxRecDepth 100000 in
theorem c_enroll (l : Launch) (E : GE) (a : Nat → Nat) (σ : GS) (sz : Nat) (k : Nat) (hn : gn σ ≤ 40) (hk : k < gn σ) (h8 : gk σ < 8) : Met l yX0_enroll wsX0_enroll { frames := 1, cells := 0, slots := 0, locals := 22 } (va_Pc [.ref (a 0), .int (nI k)] (gBw E sz (gW E a σ))) (gQi E (nI (gk σ)) (gW E a σ) (gW E a (gEnr σ k)) sz) 0 0 (va_A (gW E a σ) sz) := by
  refine w_met (cc := cX0_enroll) (maxL := 3) (ret := (some .int)) (by decide) rfl (Nat.le_of_ble_eq_true rfl) ?_
  intro p e s m below meth c ls S hr hlocks hname hB hl
  obtain ⟨hsz, hP, hK, hD0⟩ := hB
  subst hsz
  have hD := hD0.self (sz := s.heap.size)
  have hA : ∀ q : Nat, s.heap.size ≤ q → va_A (gW E a σ) s.heap.size q := fun q h => Or.inr h
  have hS : va_S (va_A (gW E a σ) s.heap.size) s.heap s.heap [] := va_S.rf
  obtain ⟨hx, hb, hml, hown, hts⟩ := id S
  have hts0 := hinX0_enroll
  have hl : lv_has ls 3 [(0, .ref (a 0)), (1, .int (nI k))] := hl
  refine lv_aload_n hx hb dX0_enroll_0 rfl (lv_at hl 0 rfl) ?_
  refine lv_iload_n hx hb dX0_enroll_1 rfl (lv_at hl 1 rfl) ?_
  refine g0v (As := [.int (nI k)]) (rest := []) S (c_requirePlace l E a σ k (by omega) (by omega)) (cwV 1 hts gX0_enroll_X0_requirePlace rfl rfl rfl hdX0_requirePlace ⟨Nat.le_of_ble_eq_true rfl, Nat.le_of_ble_eq_true rfl⟩) hK hP rfl hl.1 rfl (Nat.le_of_ble_eq_true rfl) ⟨Nat.zero_le _, Nat.zero_le _⟩ dX0_enroll_2 ?_
  refine lv_aload_n hx hb dX0_enroll_5 rfl (lv_at hl 0 rfl) ?_
  refine g_get (σ := σ) hx hb hts hts0 hown hK hP 1 (by decide) (by decide +kernel) rfl rfl dX0_enroll_6 ?_
  refine lv_bipush (v := nI 8) hx hb dX0_enroll_9 (by decide) ?_
  refine lv_icmp_lt (tgt := 24) hx hb dX0_enroll_11 (by decide) (fun _ => ?_) (fun q => absurd ((nI_lt (by omega) (by omega))) q)
  refine lv_aload_n hx hb dX0_enroll_24 rfl (lv_at hl 0 rfl) ?_
  refine g_get (σ := σ) hx hb hts hts0 hown hK hP 1 (by decide) (by decide +kernel) rfl rfl dX0_enroll_25 ?_
  refine lv_istore_n (lv' := [(2, .int (nI (gk σ))), (0, .ref (a 0)), (1, .int (nI k))]) hx hb dX0_enroll_28 rfl hl (by decide) rfl (fun ls hl => ?_)
  refine lv_aload_n hx hb dX0_enroll_29 rfl (lv_at hl 1 rfl) ?_
  refine g_get (σ := σ) hx hb hts hts0 hown hK hP 15 (by decide) (by decide +kernel) rfl rfl dX0_enroll_30 ?_
  refine lv_iload_n hx hb dX0_enroll_33 rfl (lv_at hl 0 rfl) ?_
  refine lv_iload_n hx hb dX0_enroll_34 rfl (lv_at hl 2 rfl) ?_
  refine g_put S gX0_enroll_X0_put hK hP hD hS hA 11 rfl (by decide) (f' := (fun z9 => nI (va_up ((gst σ)) (gk σ) k z9))) (vp_in_nI (by omega) (by decide)) (by rw [nI_clamp (by omega)]; exact n_upd _ _ _) hl.1 (Nat.le_of_ble_eq_true rfl) ⟨Nat.zero_le _, Nat.zero_le _⟩ ⟨Nat.le_of_ble_eq_true rfl, Nat.le_of_ble_eq_true rfl⟩ dX0_enroll_35 (fun H locs hP hD hS => ?_)
  have hP : gP E (gW E a (gn σ, gk σ, gc σ, gs σ, ge σ, glf σ, grt σ, va_up ((gst σ)) (gk σ) k, gpc σ, gpf σ, glo σ, ghi σ, gwt σ, ggr σ, gsu σ, gho σ, ghs σ, grb σ)) H := hP
  have hD : va_D (va_A (gW E a σ) s.heap.size) (gW E a (gn σ, gk σ, gc σ, gs σ, ge σ, glf σ, grt σ, va_up ((gst σ)) (gk σ) k, gpc σ, gpf σ, glo σ, ghi σ, gwt σ, ggr σ, gsu σ, gho σ, ghs σ, grb σ)) := hD
  refine lv_aload_n hx hb dX0_enroll_38 rfl (lv_at hl 1 rfl) ?_
  refine lv_dup hx hb dX0_enroll_39 rfl ?_
  refine g_get (σ := (gn σ, gk σ, gc σ, gs σ, ge σ, glf σ, grt σ, va_up ((gst σ)) (gk σ) k, gpc σ, gpf σ, glo σ, ghi σ, gwt σ, ggr σ, gsu σ, gho σ, ghs σ, grb σ)) hx hb hts hts0 hown hK hP 1 (by decide) (by decide +kernel) rfl rfl dX0_enroll_40 ?_
  refine lv_iconst (v := 1) hx hb dX0_enroll_43 (by decide) ?_
  refine lv_iadd hx hb dX0_enroll_44 ?_
  rw [nI_1 (gk σ)]
  refine va_put (D := E.1) (ci := 0) (v := .int (nI ((gk σ) + 1))) (ty := .int) (C := RX0) (T := TX0) (N := 18) hx hb hts hts0 tyX0 tyX0_ok nmX0 hown hK hP hD hS 0 rfl rfl 1 (by decide) (hts (.fieldLink RX0 127 "ExamGarden" "studentCount" "I") (by decide +kernel)) (fun _ h9 => h9) rfl (by decide +kernel) rfl rfl (Nat.le_of_ble_eq_true rfl) dX0_enroll_45 (fun H locs hP hD hS => ?_)
  have hP : gP E (gW E a (gn σ, (gk σ) + 1, gc σ, gs σ, ge σ, glf σ, grt σ, va_up ((gst σ)) (gk σ) k, gpc σ, gpf σ, glo σ, ghi σ, gwt σ, ggr σ, gsu σ, gho σ, ghs σ, grb σ)) H := hP
  have hD : va_D (va_A (gW E a σ) s.heap.size) (gW E a (gn σ, (gk σ) + 1, gc σ, gs σ, ge σ, glf σ, grt σ, va_up ((gst σ)) (gk σ) k, gpc σ, gpf σ, glo σ, ghi σ, gwt σ, ggr σ, gsu σ, gho σ, ghs σ, grb σ)) := hD
  refine lv_iload_n hx hb dX0_enroll_48 rfl (lv_at hl 0 rfl) ?_
  exact W.iret hx hb hr (fun t ht hW => ⟨⟨_, (), rfl, rfl, by show gP E _ t.heap; rw [ht]; exact hP⟩, hS.F ht⟩) hS.2.2 dX0_enroll_49
theorem hinX0_turn : ∀ w ∈ wsX00, w ∈ wsX0_turn := fun w h => List.mem_cons_of_mem _ (List.mem_append_left _ (List.mem_append_left _ (List.mem_append_right _ h)))
theorem hdX0_turn : yX0_turn.cls = RX0 ∧ yX0_turn.cls ≠ "java/lang/invoke/MethodHandle" ∧ yX0_turn.cls ≠ "java/lang/invoke/VarHandle" ∧ (parseMethodDescriptor yX0_turn.desc).map (fun d => d.parameters.length) = some 2 := by decide +kernel
set_option maxHeartbeats 4000000 in
set_option maxRecDepth 100000 in
theorem c_turn (l : Launch) (E : GE) (a : Nat → Nat) (σ : GS) (sz : Nat) (hO : GOK σ) (k : Nat) (hk : k < gk σ) (hE : gEx (ge σ) (gst σ k) = false) (b : Bool) : Met l yX0_turn wsX0_turn { frames := 3, cells := 0, slots := 0, locals := 67 } (va_Pc [.ref (a 0), .int (nI k), .int (b2i b)] (gBw E sz (gW E a σ))) (gQi E (nI (gTo σ (gst σ k) b)) (gW E a σ) (gW E a (gWalk σ k b)) sz) 0 0 (va_A (gW E a σ) sz) := by
  refine w_met (cc := cX0_turn) (maxL := 3) (ret := (some .int)) (by decide) rfl (Nat.le_of_ble_eq_true rfl) ?_
  intro p e s m below meth c ls S hr hlocks hname hB hl
  obtain ⟨hsz, hP, hK, hD0⟩ := hB
  subst hsz
  have hD := hD0.self (sz := s.heap.size)
  have hA : ∀ q : Nat, s.heap.size ≤ q → va_A (gW E a σ) s.heap.size q := fun q h => Or.inr h
  have hS : va_S (va_A (gW E a σ) s.heap.size) s.heap s.heap [] := va_S.rf
  obtain ⟨hx, hb, hml, hown, hts⟩ := id S
  have tk := hO.2.1
  have t1 := hO.2.2.2.2.1 k
  have t2 := hO.2.2.2.2.2.2.1 k
  have hts0 := hinX0_turn
  have hl : lv_has ls 3 [(0, .ref (a 0)), (1, .int (nI k)), (2, .int (b2i b))] := hl
  refine lv_aload_n hx hb dX0_turn_0 rfl (lv_at hl 0 rfl) ?_
  refine lv_iload_n hx hb dX0_turn_1 rfl (lv_at hl 1 rfl) ?_
  refine g0v (As := [.int (nI k)]) (rest := []) S (c_requireStudent l E a σ k (by omega) (by omega)) (cwV 1 hts gX0_turn_X0_requireStudent rfl rfl rfl hdX0_requireStudent ⟨Nat.le_of_ble_eq_true rfl, Nat.le_of_ble_eq_true rfl⟩) hK hP rfl hl.1 rfl (Nat.le_of_ble_eq_true rfl) ⟨Nat.zero_le _, Nat.zero_le _⟩ dX0_turn_2 ?_
  refine lv_aload_n hx hb dX0_turn_5 rfl (lv_at hl 0 rfl) ?_
  refine lv_aload_n hx hb dX0_turn_6 rfl (lv_at hl 0 rfl) ?_
  refine g_get (σ := σ) hx hb hts hts0 hown hK hP 15 (by decide) (by decide +kernel) rfl rfl dX0_turn_7 ?_
  refine lv_iload_n hx hb dX0_turn_10 rfl (lv_at hl 1 rfl) ?_
  refine g_at S gX0_turn_X0_at hK hP 11 rfl (by decide) (v := nI ((gst σ) k)) (vp_in_nI (by omega) (by decide)) (by rw [nI_clamp (by omega)]) hl.1 (Nat.le_of_ble_eq_true rfl) ⟨Nat.zero_le _, Nat.zero_le _⟩ ⟨Nat.le_of_ble_eq_true rfl, Nat.le_of_ble_eq_true rfl⟩ dX0_turn_11 ?_
  refine g0i (As := [.int (nI ((gst σ) k))]) (rest := []) S (c_holdsExam l E a σ ((gst σ) k) (by omega)) (cwV 1 hts gX0_turn_X0_holdsExam rfl rfl rfl hdX0_holdsExam ⟨Nat.le_of_ble_eq_true rfl, Nat.le_of_ble_eq_true rfl⟩) hK hP rfl hl.1 rfl (Nat.le_of_ble_eq_true rfl) ⟨Nat.zero_le _, Nat.zero_le _⟩ dX0_turn_14 ?_
  refine lv_if_eq (tgt := 30) hx hb dX0_turn_17 (by decide) (fun _ => ?_) (fun q => absurd ((b2i_eq0.mpr hE)) q)
  refine lv_aload_n hx hb dX0_turn_30 rfl (lv_at hl 0 rfl) ?_
  refine lv_iload_n hx hb dX0_turn_31 rfl (lv_at hl 1 rfl) ?_
  refine lv_iload_n hx hb dX0_turn_32 rfl (lv_at hl 2 rfl) ?_
  refine g0w (As := [.int (nI k), .int (b2i b)]) (rest := []) (σ' := gWalk σ k b) S (c_walk l E a σ _ hO k (by omega) (by omega) b) (cwV 2 hts gX0_turn_X0_walk rfl rfl rfl hdX0_walk ⟨Nat.le_of_ble_eq_true rfl, Nat.le_of_ble_eq_true rfl⟩) hK hP hD hS hA rfl hl.1 rfl (Nat.le_of_ble_eq_true rfl) ⟨Nat.zero_le _, Nat.zero_le _⟩ dX0_turn_33 (fun H locs hP hD hS => ?_)
  refine lv_aload_n hx hb dX0_turn_36 rfl (lv_at hl 0 rfl) ?_
  refine g_get (σ := (gWalk σ k b)) hx hb hts hts0 hown hK hP 15 (by decide) (by decide +kernel) rfl rfl dX0_turn_37 ?_
  refine lv_iload_n hx hb dX0_turn_40 rfl (lv_at hl 1 rfl) ?_
  refine g_at S gX0_turn_X0_at hK hP 11 rfl (by decide) (v := nI (gTo σ (gst σ k) b)) (vp_in_nI (by omega) (by decide)) (by rw [nI_clamp (by omega)]; show nI (va_up (gst σ) k _ k) = _; rw [va_up_self]) hl.1 (Nat.le_of_ble_eq_true rfl) ⟨Nat.zero_le _, Nat.zero_le _⟩ ⟨Nat.le_of_ble_eq_true rfl, Nat.le_of_ble_eq_true rfl⟩ dX0_turn_41 ?_
  exact W.iret hx hb hr (fun t ht hW => ⟨⟨_, (), rfl, rfl, by show gP E _ t.heap; rw [ht]; exact hP⟩, hS.F ht⟩) hS.2.2 dX0_turn_44
theorem hinX0_goBack : ∀ w ∈ wsX00, w ∈ wsX0_goBack := fun w h => List.mem_cons_of_mem _ (List.mem_append_left _ (List.mem_append_left _ (List.mem_append_right _ h)))
theorem hdX0_goBack : yX0_goBack.cls = RX0 ∧ yX0_goBack.cls ≠ "java/lang/invoke/MethodHandle" ∧ yX0_goBack.cls ≠ "java/lang/invoke/VarHandle" ∧ (parseMethodDescriptor yX0_goBack.desc).map (fun d => d.parameters.length) = some 1 := by decide +kernel
set_option maxHeartbeats 4000000 in
set_option maxRecDepth 100000 in
theorem c_goBack (l : Launch) (E : GE) (a : Nat → Nat) (σ : GS) (sz : Nat) (k j : Nat) (hn : gk σ ≤ 8) (hk : k < gk σ) (hc : gpc σ k = j + 1) (hc9 : j < 40) : Met l yX0_goBack wsX0_goBack { frames := 2, cells := 0, slots := 0, locals := 43 } (va_Pc [.ref (a 0), .int (nI k)] (gBw E sz (gW E a σ))) (gQi E (nI (gpf σ (k * 40 + j))) (gW E a σ) (gW E a (gBk σ k j)) sz) 0 0 (va_A (gW E a σ) sz) := by
  refine w_met (cc := cX0_goBack) (maxL := 4) (ret := (some .int)) (by decide) rfl (Nat.le_of_ble_eq_true rfl) ?_
  intro p e s m below meth c ls S hr hlocks hname hB hl
  obtain ⟨hsz, hP, hK, hD0⟩ := hB
  subst hsz
  have hD := hD0.self (sz := s.heap.size)
  have hA : ∀ q : Nat, s.heap.size ≤ q → va_A (gW E a σ) s.heap.size q := fun q h => Or.inr h
  have hS : va_S (va_A (gW E a σ) s.heap.size) s.heap s.heap [] := va_S.rf
  obtain ⟨hx, hb, hml, hown, hts⟩ := id S
  have hts0 := hinX0_goBack
  have hl : lv_has ls 4 [(0, .ref (a 0)), (1, .int (nI k))] := hl
  refine lv_aload_n hx hb dX0_goBack_0 rfl (lv_at hl 0 rfl) ?_
  refine lv_iload_n hx hb dX0_goBack_1 rfl (lv_at hl 1 rfl) ?_
  refine g0v (As := [.int (nI k)]) (rest := []) S (c_requireStudent l E a σ k (by omega) (by omega)) (cwV 1 hts gX0_goBack_X0_requireStudent rfl rfl rfl hdX0_requireStudent ⟨Nat.le_of_ble_eq_true rfl, Nat.le_of_ble_eq_true rfl⟩) hK hP rfl hl.1 rfl (Nat.le_of_ble_eq_true rfl) ⟨Nat.zero_le _, Nat.zero_le _⟩ dX0_goBack_2 ?_
  refine lv_aload_n hx hb dX0_goBack_5 rfl (lv_at hl 0 rfl) ?_
  refine g_get (σ := σ) hx hb hts hts0 hown hK hP 16 (by decide) (by decide +kernel) rfl rfl dX0_goBack_6 ?_
  refine lv_iload_n hx hb dX0_goBack_9 rfl (lv_at hl 1 rfl) ?_
  refine g_at S gX0_goBack_X0_at hK hP 12 rfl (by decide) (v := nI ((gpc σ) k)) (vp_in_nI (by omega) (by decide)) (by rw [nI_clamp (by omega)]) hl.1 (Nat.le_of_ble_eq_true rfl) ⟨Nat.zero_le _, Nat.zero_le _⟩ ⟨Nat.le_of_ble_eq_true rfl, Nat.le_of_ble_eq_true rfl⟩ dX0_goBack_10 ?_
  refine lv_iconst (v := 1) hx hb dX0_goBack_13 (by decide) ?_
  refine lv_isub hx hb dX0_goBack_14 ?_
  rw [hc, nI_pred j]
  refine lv_istore_n (lv' := [(2, .int (nI j)), (0, .ref (a 0)), (1, .int (nI k))]) hx hb dX0_goBack_15 rfl hl (by decide) rfl (fun ls hl => ?_)
  refine lv_iload_n hx hb dX0_goBack_16 rfl (lv_at hl 0 rfl) ?_
  refine lv_if_ge (tgt := 30) hx hb dX0_goBack_17 (by decide) (fun _ => ?_) (fun q => absurd ((nI_pos' (by omega))) q)
  refine lv_aload_n hx hb dX0_goBack_30 rfl (lv_at hl 1 rfl) ?_
  refine lv_iload_n hx hb dX0_goBack_31 rfl (lv_at hl 2 rfl) ?_
  refine lv_iload_n hx hb dX0_goBack_32 rfl (lv_at hl 0 rfl) ?_
  refine g0i (As := [.int (nI k), .int (nI j)]) (rest := []) S (c_passedFork l E a σ k j (by omega) (by omega)) (cwV 2 hts gX0_goBack_X0_passedFork rfl rfl rfl hdX0_passedFork ⟨Nat.le_of_ble_eq_true rfl, Nat.le_of_ble_eq_true rfl⟩) hK hP rfl hl.1 rfl (Nat.le_of_ble_eq_true rfl) ⟨Nat.zero_le _, Nat.zero_le _⟩ dX0_goBack_33 ?_
  refine lv_istore_n (lv' := [(3, .int (nI (gpf σ (k * 40 + j)))), (2, .int (nI j)), (0, .ref (a 0)), (1, .int (nI k))]) hx hb dX0_goBack_36 rfl hl (by decide) rfl (fun ls hl => ?_)
  refine lv_aload_n hx hb dX0_goBack_37 rfl (lv_at hl 2 rfl) ?_
  refine g_get (σ := σ) hx hb hts hts0 hown hK hP 15 (by decide) (by decide +kernel) rfl rfl dX0_goBack_38 ?_
  refine lv_iload_n hx hb dX0_goBack_41 rfl (lv_at hl 3 rfl) ?_
  refine lv_iload_n hx hb dX0_goBack_42 rfl (lv_at hl 0 rfl) ?_
  refine g_put S gX0_goBack_X0_put hK hP hD hS hA 11 rfl (by decide) (f' := (fun z9 => nI (va_up ((gst σ)) k (gpf σ (k * 40 + j)) z9))) (vp_in_nI (by omega) (by decide)) (by rw [nI_clamp (by omega)]; exact n_upd _ _ _) hl.1 (Nat.le_of_ble_eq_true rfl) ⟨Nat.zero_le _, Nat.zero_le _⟩ ⟨Nat.le_of_ble_eq_true rfl, Nat.le_of_ble_eq_true rfl⟩ dX0_goBack_43 (fun H locs hP hD hS => ?_)
  have hP : gP E (gW E a (gn σ, gk σ, gc σ, gs σ, ge σ, glf σ, grt σ, va_up ((gst σ)) k (gpf σ (k * 40 + j)), gpc σ, gpf σ, glo σ, ghi σ, gwt σ, ggr σ, gsu σ, gho σ, ghs σ, grb σ)) H := hP
  have hD : va_D (va_A (gW E a σ) s.heap.size) (gW E a (gn σ, gk σ, gc σ, gs σ, ge σ, glf σ, grt σ, va_up ((gst σ)) k (gpf σ (k * 40 + j)), gpc σ, gpf σ, glo σ, ghi σ, gwt σ, ggr σ, gsu σ, gho σ, ghs σ, grb σ)) := hD
  refine lv_aload_n hx hb dX0_goBack_46 rfl (lv_at hl 2 rfl) ?_
  refine g_get (σ := (gn σ, gk σ, gc σ, gs σ, ge σ, glf σ, grt σ, va_up ((gst σ)) k (gpf σ (k * 40 + j)), gpc σ, gpf σ, glo σ, ghi σ, gwt σ, ggr σ, gsu σ, gho σ, ghs σ, grb σ)) hx hb hts hts0 hown hK hP 16 (by decide) (by decide +kernel) rfl rfl dX0_goBack_47 ?_
  refine lv_iload_n hx hb dX0_goBack_50 rfl (lv_at hl 3 rfl) ?_
  refine lv_iload_n hx hb dX0_goBack_51 rfl (lv_at hl 1 rfl) ?_
  refine g_put S gX0_goBack_X0_put hK hP hD hS hA 12 rfl (by decide) (f' := (fun z9 => nI (va_up ((gpc σ)) k j z9))) (vp_in_nI (by omega) (by decide)) (by rw [nI_clamp (by omega)]; exact n_upd _ _ _) hl.1 (Nat.le_of_ble_eq_true rfl) ⟨Nat.zero_le _, Nat.zero_le _⟩ ⟨Nat.le_of_ble_eq_true rfl, Nat.le_of_ble_eq_true rfl⟩ dX0_goBack_52 (fun H locs hP hD hS => ?_)
  have hP : gP E (gW E a (gn σ, gk σ, gc σ, gs σ, ge σ, glf σ, grt σ, va_up ((gst σ)) k (gpf σ (k * 40 + j)), va_up ((gpc σ)) k j, gpf σ, glo σ, ghi σ, gwt σ, ggr σ, gsu σ, gho σ, ghs σ, grb σ)) H := hP
  have hD : va_D (va_A (gW E a σ) s.heap.size) (gW E a (gn σ, gk σ, gc σ, gs σ, ge σ, glf σ, grt σ, va_up ((gst σ)) k (gpf σ (k * 40 + j)), va_up ((gpc σ)) k j, gpf σ, glo σ, ghi σ, gwt σ, ggr σ, gsu σ, gho σ, ghs σ, grb σ)) := hD
  refine lv_iload_n hx hb dX0_goBack_55 rfl (lv_at hl 0 rfl) ?_
  exact W.iret hx hb hr (fun t ht hW => ⟨⟨_, (), rfl, rfl, by show gP E _ t.heap; rw [ht]; exact hP⟩, hS.F ht⟩) hS.2.2 dX0_goBack_56
theorem hinX0_grade : ∀ w ∈ wsX00, w ∈ wsX0_grade := fun w h => List.mem_cons_of_mem _ (List.mem_append_left _ (List.mem_append_left _ (List.mem_append_left _ (List.mem_append_right _ h))))
theorem hdX0_grade : yX0_grade.cls = RX0 ∧ yX0_grade.cls ≠ "java/lang/invoke/MethodHandle" ∧ yX0_grade.cls ≠ "java/lang/invoke/VarHandle" ∧ (parseMethodDescriptor yX0_grade.desc).map (fun d => d.parameters.length) = some 2 := by decide +kernel
set_option maxHeartbeats 4000000 in
set_option maxRecDepth 100000 in
theorem c_grade (l : Launch) (E : GE) (a : Nat → Nat) (σ : GS) (sz : Nat) (hO : GOK σ) (k g : Nat) (hk : k < gn σ) (hE : gEx (ge σ) k = true) (h1 : glo σ k ≤ g) (h2 : g ≤ ghi σ k) (h3 : ghi σ k ≤ 20) (hG : gHas σ k = false) : Met l yX0_grade wsX0_grade { frames := 4, cells := 0, slots := 0, locals := 87 } (va_Pc [.ref (a 0), .int (nI k), .int (nI g)] (gBw E sz (gW E a σ))) (gQi E (gc σ + 1) (gW E a σ) (gW E a (gGrd σ k (nI g))) sz) 0 0 (va_A (gW E a σ) sz) := by
  refine w_met (cc := cX0_grade) (maxL := 3) (ret := (some .int)) (by decide) rfl (Nat.le_of_ble_eq_true rfl) ?_
  intro p e s m below meth c ls S hr hlocks hname hB hl
  obtain ⟨hsz, hP, hK, hD0⟩ := hB
  subst hsz
  have hD := hD0.self (sz := s.heap.size)
  have hA : ∀ q : Nat, s.heap.size ≤ q → va_A (gW E a σ) s.heap.size q := fun q h => Or.inr h
  have hS : va_S (va_A (gW E a σ) s.heap.size) s.heap s.heap [] := va_S.rf
  obtain ⟨hx, hb, hml, hown, hts⟩ := id S
  have tn := hO.1
  have hts0 := hinX0_grade
  have hl : lv_has ls 3 [(0, .ref (a 0)), (1, .int (nI k)), (2, .int (nI g))] := hl
  refine lv_aload_n hx hb dX0_grade_0 rfl (lv_at hl 0 rfl) ?_
  refine lv_iload_n hx hb dX0_grade_1 rfl (lv_at hl 1 rfl) ?_
  refine g0v (As := [.int (nI k)]) (rest := []) S (c_requireExam l E a σ k (by omega) (by omega) hE) (cwV 1 hts gX0_grade_X0_requireExam rfl rfl rfl hdX0_requireExam ⟨Nat.le_of_ble_eq_true rfl, Nat.le_of_ble_eq_true rfl⟩) hK hP rfl hl.1 rfl (Nat.le_of_ble_eq_true rfl) ⟨Nat.zero_le _, Nat.zero_le _⟩ dX0_grade_2 ?_
  refine lv_iload_n hx hb dX0_grade_5 rfl (lv_at hl 2 rfl) ?_
  refine lv_aload_n hx hb dX0_grade_6 rfl (lv_at hl 0 rfl) ?_
  refine g_get (σ := σ) hx hb hts hts0 hown hK hP 5 (by decide) (by decide +kernel) rfl rfl dX0_grade_7 ?_
  refine lv_iload_n hx hb dX0_grade_10 rfl (lv_at hl 1 rfl) ?_
  refine g_at S gX0_grade_X0_at hK hP 1 rfl (by decide) (v := nI ((glo σ) k)) (vp_in_nI (by omega) (by decide)) (by rw [nI_clamp (by omega)]) hl.1 (Nat.le_of_ble_eq_true rfl) ⟨Nat.zero_le _, Nat.zero_le _⟩ ⟨Nat.le_of_ble_eq_true rfl, Nat.le_of_ble_eq_true rfl⟩ dX0_grade_11 ?_
  refine lv_icmp_lt (tgt := 29) hx hb dX0_grade_14 (by decide) (fun q => absurd q ((nI_nlt (by omega) (by omega)))) (fun _ => ?_)
  refine lv_iload_n hx hb dX0_grade_17 rfl (lv_at hl 2 rfl) ?_
  refine lv_aload_n hx hb dX0_grade_18 rfl (lv_at hl 0 rfl) ?_
  refine g_get (σ := σ) hx hb hts hts0 hown hK hP 6 (by decide) (by decide +kernel) rfl rfl dX0_grade_19 ?_
  refine lv_iload_n hx hb dX0_grade_22 rfl (lv_at hl 1 rfl) ?_
  refine g_at S gX0_grade_X0_at hK hP 2 rfl (by decide) (v := nI ((ghi σ) k)) (vp_in_nI (by omega) (by decide)) (by rw [nI_clamp (by omega)]) hl.1 (Nat.le_of_ble_eq_true rfl) ⟨Nat.zero_le _, Nat.zero_le _⟩ ⟨Nat.le_of_ble_eq_true rfl, Nat.le_of_ble_eq_true rfl⟩ dX0_grade_23 ?_
  refine lv_icmp_le (tgt := 39) hx hb dX0_grade_26 (by decide) (fun _ => ?_) (fun q => absurd ((nI_le (by omega) (by omega))) q)
  refine lv_aload_n hx hb dX0_grade_39 rfl (lv_at hl 0 rfl) ?_
  refine lv_iload_n hx hb dX0_grade_40 rfl (lv_at hl 1 rfl) ?_
  refine g0i (As := [.int (nI k)]) (rest := []) S (c_hasGrade l E a σ k (by omega)) (cwV 1 hts gX0_grade_X0_hasGrade rfl rfl rfl hdX0_hasGrade ⟨Nat.le_of_ble_eq_true rfl, Nat.le_of_ble_eq_true rfl⟩) hK hP rfl hl.1 rfl (Nat.le_of_ble_eq_true rfl) ⟨Nat.zero_le _, Nat.zero_le _⟩ dX0_grade_41 ?_
  refine lv_if_eq (tgt := 57) hx hb dX0_grade_44 (by decide) (fun _ => ?_) (fun q => absurd ((b2i_eq0.mpr hG)) q)
  refine lv_aload_n hx hb dX0_grade_57 rfl (lv_at hl 0 rfl) ?_
  refine g_get (σ := σ) hx hb hts hts0 hown hK hP 10 (by decide) (by decide +kernel) rfl rfl dX0_grade_58 ?_
  refine lv_iload_n hx hb dX0_grade_61 rfl (lv_at hl 1 rfl) ?_
  refine lv_iload_n hx hb dX0_grade_62 rfl (lv_at hl 2 rfl) ?_
  refine g_put S gX0_grade_X0_put hK hP hD hS hA 6 rfl (by decide) (f' := (upd ((ggr σ)) k (nI g))) (vp_in_nI (by omega) (by decide)) (by rw [nI_clamp (by omega)]) hl.1 (Nat.le_of_ble_eq_true rfl) ⟨Nat.zero_le _, Nat.zero_le _⟩ ⟨Nat.le_of_ble_eq_true rfl, Nat.le_of_ble_eq_true rfl⟩ dX0_grade_63 (fun H locs hP hD hS => ?_)
  have hP : gP E (gW E a (gn σ, gk σ, gc σ, gs σ, ge σ, glf σ, grt σ, gst σ, gpc σ, gpf σ, glo σ, ghi σ, gwt σ, upd ((ggr σ)) k (nI g), gsu σ, gho σ, ghs σ, grb σ)) H := hP
  have hD : va_D (va_A (gW E a σ) s.heap.size) (gW E a (gn σ, gk σ, gc σ, gs σ, ge σ, glf σ, grt σ, gst σ, gpc σ, gpf σ, glo σ, ghi σ, gwt σ, upd ((ggr σ)) k (nI g), gsu σ, gho σ, ghs σ, grb σ)) := hD
  refine lv_aload_n hx hb dX0_grade_66 rfl (lv_at hl 0 rfl) ?_
  refine lv_dup hx hb dX0_grade_67 rfl ?_
  refine g_get (σ := (gn σ, gk σ, gc σ, gs σ, ge σ, glf σ, grt σ, gst σ, gpc σ, gpf σ, glo σ, ghi σ, gwt σ, upd ((ggr σ)) k (nI g), gsu σ, gho σ, ghs σ, grb σ)) hx hb hts hts0 hown hK hP 2 (by decide) (by decide +kernel) rfl rfl dX0_grade_68 ?_
  refine lv_iconst (v := 1) hx hb dX0_grade_71 (by decide) ?_
  refine lv_iadd hx hb dX0_grade_72 ?_
  refine va_put (D := E.1) (ci := 0) (v := .int ((gc σ) + 1)) (ty := .int) (C := RX0) (T := TX0) (N := 18) hx hb hts hts0 tyX0 tyX0_ok nmX0 hown hK hP hD hS 0 rfl rfl 2 (by decide) (hts (.fieldLink RX0 115 "ExamGarden" "gradedCount" "I") (by decide +kernel)) (fun _ h9 => h9) rfl (by decide +kernel) rfl rfl (Nat.le_of_ble_eq_true rfl) dX0_grade_73 (fun H locs hP hD hS => ?_)
  have hP : gP E (gW E a (gn σ, gk σ, (gc σ) + 1, gs σ, ge σ, glf σ, grt σ, gst σ, gpc σ, gpf σ, glo σ, ghi σ, gwt σ, upd ((ggr σ)) k (nI g), gsu σ, gho σ, ghs σ, grb σ)) H := hP
  have hD : va_D (va_A (gW E a σ) s.heap.size) (gW E a (gn σ, gk σ, (gc σ) + 1, gs σ, ge σ, glf σ, grt σ, gst σ, gpc σ, gpf σ, glo σ, ghi σ, gwt σ, upd ((ggr σ)) k (nI g), gsu σ, gho σ, ghs σ, grb σ)) := hD
  refine lv_aload_n hx hb dX0_grade_76 rfl (lv_at hl 0 rfl) ?_
  refine lv_dup hx hb dX0_grade_77 rfl ?_
  refine g_get (σ := (gn σ, gk σ, (gc σ) + 1, gs σ, ge σ, glf σ, grt σ, gst σ, gpc σ, gpf σ, glo σ, ghi σ, gwt σ, upd ((ggr σ)) k (nI g), gsu σ, gho σ, ghs σ, grb σ)) hx hb hts hts0 hown hK hP 3 (by decide) (by decide +kernel) rfl rfl dX0_grade_78 ?_
  refine lv_iload_n hx hb dX0_grade_81 rfl (lv_at hl 2 rfl) ?_
  refine lv_iadd hx hb dX0_grade_82 ?_
  refine va_put (D := E.1) (ci := 0) (v := .int ((gs σ) + (nI g))) (ty := .int) (C := RX0) (T := TX0) (N := 18) hx hb hts hts0 tyX0 tyX0_ok nmX0 hown hK hP hD hS 0 rfl rfl 3 (by decide) (hts (.fieldLink RX0 118 "ExamGarden" "gradeSum" "I") (by decide +kernel)) (fun _ h9 => h9) rfl (by decide +kernel) rfl rfl (Nat.le_of_ble_eq_true rfl) dX0_grade_83 (fun H locs hP hD hS => ?_)
  have hP : gP E (gW E a (gn σ, gk σ, (gc σ) + 1, (gs σ) + (nI g), ge σ, glf σ, grt σ, gst σ, gpc σ, gpf σ, glo σ, ghi σ, gwt σ, upd ((ggr σ)) k (nI g), gsu σ, gho σ, ghs σ, grb σ)) H := hP
  have hD : va_D (va_A (gW E a σ) s.heap.size) (gW E a (gn σ, gk σ, (gc σ) + 1, (gs σ) + (nI g), ge σ, glf σ, grt σ, gst σ, gpc σ, gpf σ, glo σ, ghi σ, gwt σ, upd ((ggr σ)) k (nI g), gsu σ, gho σ, ghs σ, grb σ)) := hD
  refine lv_aload_n hx hb dX0_grade_86 rfl (lv_at hl 0 rfl) ?_
  refine lv_iload_n hx hb dX0_grade_87 rfl (lv_at hl 1 rfl) ?_
  refine g0w (As := [.int (nI k)]) (rest := []) (σ' := gSeE (gn σ, gk σ, (gc σ) + 1, (gs σ) + (nI g), ge σ, glf σ, grt σ, gst σ, gpc σ, gpf σ, glo σ, ghi σ, gwt σ, upd ((ggr σ)) k (nI g), gsu σ, gho σ, ghs σ, grb σ) k) S (c_settleExam l E a (gn σ, gk σ, (gc σ) + 1, (gs σ) + (nI g), ge σ, glf σ, grt σ, gst σ, gpc σ, gpf σ, glo σ, ghi σ, gwt σ, upd ((ggr σ)) k (nI g), gsu σ, gho σ, ghs σ, grb σ) _ k (by omega)) (cwV 1 hts gX0_grade_X0_settleExam rfl rfl rfl hdX0_settleExam ⟨Nat.le_of_ble_eq_true rfl, Nat.le_of_ble_eq_true rfl⟩) hK hP hD hS hA rfl hl.1 rfl (Nat.le_of_ble_eq_true rfl) ⟨Nat.zero_le _, Nat.zero_le _⟩ dX0_grade_88 (fun H locs hP hD hS => ?_)
  refine lv_aload_n hx hb dX0_grade_91 rfl (lv_at hl 0 rfl) ?_
  refine lv_iload_n hx hb dX0_grade_92 rfl (lv_at hl 1 rfl) ?_
  refine g0w (As := [.int (nI k)]) (rest := []) (σ' := gSA (gSeE (gn σ, gk σ, (gc σ) + 1, (gs σ) + (nI g), ge σ, glf σ, grt σ, gst σ, gpc σ, gpf σ, glo σ, ghi σ, gwt σ, upd ((ggr σ)) k (nI g), gsu σ, gho σ, ghs σ, grb σ) k) (k + 1) (gn σ - (k + 1))) S (c_settleForksAfter l E a (gSeE (gn σ, gk σ, (gc σ) + 1, (gs σ) + (nI g), ge σ, glf σ, grt σ, gst σ, gpc σ, gpf σ, glo σ, ghi σ, gwt σ, upd ((ggr σ)) k (nI g), gsu σ, gho σ, ghs σ, grb σ) k) _ hO k (by show _ < gn σ; omega)) (cwV 1 hts gX0_grade_X0_settleForksAfter rfl rfl rfl hdX0_settleForksAfter ⟨Nat.le_of_ble_eq_true rfl, Nat.le_of_ble_eq_true rfl⟩) hK hP hD hS hA rfl hl.1 rfl (Nat.le_of_ble_eq_true rfl) ⟨Nat.zero_le _, Nat.zero_le _⟩ dX0_grade_93 (fun H locs hP hD hS => ?_)
  refine lv_aload_n hx hb dX0_grade_96 rfl (lv_at hl 0 rfl) ?_
  refine g_get (σ := (gSA (gSeE (gn σ, gk σ, (gc σ) + 1, (gs σ) + (nI g), ge σ, glf σ, grt σ, gst σ, gpc σ, gpf σ, glo σ, ghi σ, gwt σ, upd ((ggr σ)) k (nI g), gsu σ, gho σ, ghs σ, grb σ) k) (k + 1) (gn σ - (k + 1)))) hx hb hts hts0 hown hK hP 2 (by decide) (by decide +kernel) rfl rfl dX0_grade_97 ?_
  exact W.iret hx hb hr (fun t ht hW => ⟨⟨_, (), rfl, (gSA_gc _ _ _), by show gP E _ t.heap; rw [ht]; exact hP⟩, hS.F ht⟩) hS.2.2 dX0_grade_100
end

section
-- ===== PART A: goes FIRST, ahead of the names: the tables' words, and 'selects' of the private methods out of them =====
/-- a private method of a class that the tables say can be made, by its rows of tables_1 -/
def lw_okq (q : MethodName × Nat) : Prop := (q.1.cls ≠ "java/lang/invoke/MethodHandle" ∧ q.1.cls ≠ "java/lang/invoke/VarHandle") ∧ Cond.instantiable q.1.cls q.2 ∈ tables_1 ∧ Cond.privateMethod q.1 ∈ tables_1 ∧ Cond.instanceMethod q.1 ∈ tables_1
theorem lw_p0 : lw_okq (⟨"LinearHistories", "subjectOf", "(I)LLinearHistories$Subject;"⟩, 15) := ⟨⟨by decide +kernel, by decide +kernel⟩, List.mem_of_getElem? (i := 16) (by decide +kernel), List.mem_of_getElem? (i := 170) (by decide +kernel), List.mem_of_getElem? (i := 171) (by decide +kernel)⟩
theorem lw_p1 : lw_okq (⟨"java/lang/Throwable", "fillInStackTrace", "(I)Ljava/lang/Throwable;"⟩, 6) := ⟨⟨by decide +kernel, by decide +kernel⟩, List.mem_of_getElem? (i := 212) (by decide +kernel), List.mem_of_getElem? (i := 210) (by decide +kernel), List.mem_of_getElem? (i := 211) (by decide +kernel)⟩
theorem lw_p2 : lw_okq (⟨"LinearHistories$Table", "chainOf", "(IJ)I"⟩, 5) := ⟨⟨by decide +kernel, by decide +kernel⟩, List.mem_of_getElem? (i := 32) (by decide +kernel), List.mem_of_getElem? (i := 259) (by decide +kernel), List.mem_of_getElem? (i := 260) (by decide +kernel)⟩
theorem lw_p3 : lw_okq (⟨"LinearHistories$Table", "findIn", "(IIJ)I"⟩, 5) := ⟨⟨by decide +kernel, by decide +kernel⟩, List.mem_of_getElem? (i := 32) (by decide +kernel), List.mem_of_getElem? (i := 265) (by decide +kernel), List.mem_of_getElem? (i := 266) (by decide +kernel)⟩
theorem lw_p4 : lw_okq (⟨"LinearHistories$Space", "step", "(LLinearHistories$Subject;II)Z"⟩, 8) := ⟨⟨by decide +kernel, by decide +kernel⟩, List.mem_of_getElem? (i := 26) (by decide +kernel), List.mem_of_getElem? (i := 269) (by decide +kernel), List.mem_of_getElem? (i := 270) (by decide +kernel)⟩
theorem lw_p5 : lw_okq (⟨"LinearHistories$State", "changeRegister", "(LLinearHistories$Operation;)I"⟩, 3) := ⟨⟨by decide +kernel, by decide +kernel⟩, List.mem_of_getElem? (i := 60) (by decide +kernel), List.mem_of_getElem? (i := 282) (by decide +kernel), List.mem_of_getElem? (i := 283) (by decide +kernel)⟩
theorem lw_p6 : lw_okq (⟨"LinearHistories$State", "changeSet", "(LLinearHistories$Operation;)I"⟩, 3) := ⟨⟨by decide +kernel, by decide +kernel⟩, List.mem_of_getElem? (i := 60) (by decide +kernel), List.mem_of_getElem? (i := 286) (by decide +kernel), List.mem_of_getElem? (i := 287) (by decide +kernel)⟩
theorem lw_p7 : lw_okq (⟨"LinearHistories$State", "changeMap", "(LLinearHistories$Operation;[LLinearHistories$Operation;)I"⟩, 3) := ⟨⟨by decide +kernel, by decide +kernel⟩, List.mem_of_getElem? (i := 60) (by decide +kernel), List.mem_of_getElem? (i := 291) (by decide +kernel), List.mem_of_getElem? (i := 292) (by decide +kernel)⟩
theorem lw_p8 : lw_okq (⟨"LinearHistories$State", "changeSequence", "(ILLinearHistories$Operation;[LLinearHistories$Operation;)I"⟩, 3) := ⟨⟨by decide +kernel, by decide +kernel⟩, List.mem_of_getElem? (i := 60) (by decide +kernel), List.mem_of_getElem? (i := 297) (by decide +kernel), List.mem_of_getElem? (i := 298) (by decide +kernel)⟩
theorem lw_p9 : lw_okq (⟨"LinearHistories$State", "placeInHeap", "(I[LLinearHistories$Operation;)I"⟩, 3) := ⟨⟨by decide +kernel, by decide +kernel⟩, List.mem_of_getElem? (i := 60) (by decide +kernel), List.mem_of_getElem? (i := 301) (by decide +kernel), List.mem_of_getElem? (i := 302) (by decide +kernel)⟩
theorem lw_p10 : lw_okq (⟨"LinearHistories$State", "insertAt", "(II)V"⟩, 3) := ⟨⟨by decide +kernel, by decide +kernel⟩, List.mem_of_getElem? (i := 60) (by decide +kernel), List.mem_of_getElem? (i := 305) (by decide +kernel), List.mem_of_getElem? (i := 306) (by decide +kernel)⟩
theorem lw_p11 : lw_okq (⟨"LinearHistories$State", "removeAt", "(I)I"⟩, 3) := ⟨⟨by decide +kernel, by decide +kernel⟩, List.mem_of_getElem? (i := 60) (by decide +kernel), List.mem_of_getElem? (i := 309) (by decide +kernel), List.mem_of_getElem? (i := 310) (by decide +kernel)⟩
theorem lw_p12 : lw_okq (⟨"LinearHistories$Space", "keyBehind", "(II)I"⟩, 8) := ⟨⟨by decide +kernel, by decide +kernel⟩, List.mem_of_getElem? (i := 26) (by decide +kernel), List.mem_of_getElem? (i := 313) (by decide +kernel), List.mem_of_getElem? (i := 314) (by decide +kernel)⟩
theorem lw_p13 : lw_okq (⟨"LinearHistories", "checkProcess", "(I)V"⟩, 15) := ⟨⟨by decide +kernel, by decide +kernel⟩, List.mem_of_getElem? (i := 16) (by decide +kernel), List.mem_of_getElem? (i := 466) (by decide +kernel), List.mem_of_getElem? (i := 467) (by decide +kernel)⟩
theorem lw_p14 : lw_okq (⟨"LinearHistories", "operationOf", "(I)I"⟩, 15) := ⟨⟨by decide +kernel, by decide +kernel⟩, List.mem_of_getElem? (i := 16) (by decide +kernel), List.mem_of_getElem? (i := 515) (by decide +kernel), List.mem_of_getElem? (i := 516) (by decide +kernel)⟩
theorem lw_p15 : lw_okq (⟨"LinearHistories", "learnedSubject", "(I)LLinearHistories$Subject;"⟩, 15) := ⟨⟨by decide +kernel, by decide +kernel⟩, List.mem_of_getElem? (i := 16) (by decide +kernel), List.mem_of_getElem? (i := 538) (by decide +kernel), List.mem_of_getElem? (i := 539) (by decide +kernel)⟩
def lw_privs_1 : List (MethodName × Nat) := [(⟨"LinearHistories", "subjectOf", "(I)LLinearHistories$Subject;"⟩, 15), (⟨"java/lang/Throwable", "fillInStackTrace", "(I)Ljava/lang/Throwable;"⟩, 6), (⟨"LinearHistories$Table", "chainOf", "(IJ)I"⟩, 5), (⟨"LinearHistories$Table", "findIn", "(IIJ)I"⟩, 5), (⟨"LinearHistories$Space", "step", "(LLinearHistories$Subject;II)Z"⟩, 8), (⟨"LinearHistories$State", "changeRegister", "(LLinearHistories$Operation;)I"⟩, 3), (⟨"LinearHistories$State", "changeSet", "(LLinearHistories$Operation;)I"⟩, 3), (⟨"LinearHistories$State", "changeMap", "(LLinearHistories$Operation;[LLinearHistories$Operation;)I"⟩, 3), (⟨"LinearHistories$State", "changeSequence", "(ILLinearHistories$Operation;[LLinearHistories$Operation;)I"⟩, 3), (⟨"LinearHistories$State", "placeInHeap", "(I[LLinearHistories$Operation;)I"⟩, 3), (⟨"LinearHistories$State", "insertAt", "(II)V"⟩, 3), (⟨"LinearHistories$State", "removeAt", "(I)I"⟩, 3), (⟨"LinearHistories$Space", "keyBehind", "(II)I"⟩, 8), (⟨"LinearHistories", "checkProcess", "(I)V"⟩, 15), (⟨"LinearHistories", "operationOf", "(I)I"⟩, 15), (⟨"LinearHistories", "learnedSubject", "(I)LLinearHistories$Subject;"⟩, 15)]
theorem lw_r1 : ∀ q ∈ lw_privs_1, lw_okq q := List.forall_mem_cons.mpr ⟨lw_p0, List.forall_mem_cons.mpr ⟨lw_p1, List.forall_mem_cons.mpr ⟨lw_p2, List.forall_mem_cons.mpr ⟨lw_p3, List.forall_mem_cons.mpr ⟨lw_p4, List.forall_mem_cons.mpr ⟨lw_p5, List.forall_mem_cons.mpr ⟨lw_p6, List.forall_mem_cons.mpr ⟨lw_p7, List.forall_mem_cons.mpr ⟨lw_p8, List.forall_mem_cons.mpr ⟨lw_p9, List.forall_mem_cons.mpr ⟨lw_p10, List.forall_mem_cons.mpr ⟨lw_p11, List.forall_mem_cons.mpr ⟨lw_p12, List.forall_mem_cons.mpr ⟨lw_p13, List.forall_mem_cons.mpr ⟨lw_p14, List.forall_mem_cons.mpr ⟨lw_p15, fun _ h => absurd h List.not_mem_nil⟩⟩⟩⟩⟩⟩⟩⟩⟩⟩⟩⟩⟩⟩⟩⟩
theorem lw_p16 : lw_okq (⟨"LinearHistories", "checkLinear", "(I)V"⟩, 15) := ⟨⟨by decide +kernel, by decide +kernel⟩, List.mem_of_getElem? (i := 16) (by decide +kernel), List.mem_of_getElem? (i := 594) (by decide +kernel), List.mem_of_getElem? (i := 595) (by decide +kernel)⟩
theorem lw_p17 : lw_okq (⟨"LinearHistories", "buildRow", "()V"⟩, 15) := ⟨⟨by decide +kernel, by decide +kernel⟩, List.mem_of_getElem? (i := 16) (by decide +kernel), List.mem_of_getElem? (i := 599) (by decide +kernel), List.mem_of_getElem? (i := 600) (by decide +kernel)⟩
theorem lw_p18 : lw_okq (⟨"LinearHistories", "allAtEnds", "()Z"⟩, 15) := ⟨⟨by decide +kernel, by decide +kernel⟩, List.mem_of_getElem? (i := 16) (by decide +kernel), List.mem_of_getElem? (i := 615) (by decide +kernel), List.mem_of_getElem? (i := 616) (by decide +kernel)⟩
theorem lw_p19 : lw_okq (⟨"LinearHistories", "placeNext", "(J)I"⟩, 15) := ⟨⟨by decide +kernel, by decide +kernel⟩, List.mem_of_getElem? (i := 16) (by decide +kernel), List.mem_of_getElem? (i := 620) (by decide +kernel), List.mem_of_getElem? (i := 621) (by decide +kernel)⟩
theorem lw_p20 : lw_okq (⟨"LinearHistories", "checkPlace", "(I)V"⟩, 15) := ⟨⟨by decide +kernel, by decide +kernel⟩, List.mem_of_getElem? (i := 16) (by decide +kernel), List.mem_of_getElem? (i := 634) (by decide +kernel), List.mem_of_getElem? (i := 635) (by decide +kernel)⟩
theorem lw_p21 : lw_okq (⟨"LinearHistoriesModel", "forget", "()V"⟩, 35) := ⟨⟨by decide +kernel, by decide +kernel⟩, List.mem_of_getElem? (i := 661) (by decide +kernel), List.mem_of_getElem? (i := 667) (by decide +kernel), List.mem_of_getElem? (i := 668) (by decide +kernel)⟩
theorem lw_p22 : lw_okq (⟨"LinearHistoriesModel", "change", "()V"⟩, 35) := ⟨⟨by decide +kernel, by decide +kernel⟩, List.mem_of_getElem? (i := 661) (by decide +kernel), List.mem_of_getElem? (i := 671) (by decide +kernel), List.mem_of_getElem? (i := 672) (by decide +kernel)⟩
theorem lw_p23 : lw_okq (⟨"LinearHistoriesModel", "noObject", "(I)Z"⟩, 35) := ⟨⟨by decide +kernel, by decide +kernel⟩, List.mem_of_getElem? (i := 661) (by decide +kernel), List.mem_of_getElem? (i := 793) (by decide +kernel), List.mem_of_getElem? (i := 794) (by decide +kernel)⟩
theorem lw_p24 : lw_okq (⟨"LinearHistoriesModel", "isIdle", "(I)Z"⟩, 35) := ⟨⟨by decide +kernel, by decide +kernel⟩, List.mem_of_getElem? (i := 661) (by decide +kernel), List.mem_of_getElem? (i := 801) (by decide +kernel), List.mem_of_getElem? (i := 802) (by decide +kernel)⟩
theorem lw_p25 : lw_okq (⟨"LinearHistoriesModel", "look", "(I)V"⟩, 35) := ⟨⟨by decide +kernel, by decide +kernel⟩, List.mem_of_getElem? (i := 661) (by decide +kernel), List.mem_of_getElem? (i := 821) (by decide +kernel), List.mem_of_getElem? (i := 822) (by decide +kernel)⟩
theorem lw_p26 : lw_okq (⟨"LinearHistoriesModel", "gather", "(IIIZ)I"⟩, 35) := ⟨⟨by decide +kernel, by decide +kernel⟩, List.mem_of_getElem? (i := 661) (by decide +kernel), List.mem_of_getElem? (i := 825) (by decide +kernel), List.mem_of_getElem? (i := 826) (by decide +kernel)⟩
theorem lw_p27 : lw_okq (⟨"LinearHistoriesModel", "can", "(IIIIZ)Z"⟩, 35) := ⟨⟨by decide +kernel, by decide +kernel⟩, List.mem_of_getElem? (i := 661) (by decide +kernel), List.mem_of_getElem? (i := 829) (by decide +kernel), List.mem_of_getElem? (i := 830) (by decide +kernel)⟩
theorem lw_p28 : lw_okq (⟨"LinearHistoriesModel", "isBefore", "(IIIZ)Z"⟩, 35) := ⟨⟨by decide +kernel, by decide +kernel⟩, List.mem_of_getElem? (i := 661) (by decide +kernel), List.mem_of_getElem? (i := 833) (by decide +kernel), List.mem_of_getElem? (i := 834) (by decide +kernel)⟩
theorem lw_p29 : lw_okq (⟨"LinearHistoriesModel", "isBack", "(II)Z"⟩, 35) := ⟨⟨by decide +kernel, by decide +kernel⟩, List.mem_of_getElem? (i := 661) (by decide +kernel), List.mem_of_getElem? (i := 837) (by decide +kernel), List.mem_of_getElem? (i := 838) (by decide +kernel)⟩
theorem lw_p30 : lw_okq (⟨"LinearHistoriesModel", "doIt", "(III)V"⟩, 35) := ⟨⟨by decide +kernel, by decide +kernel⟩, List.mem_of_getElem? (i := 661) (by decide +kernel), List.mem_of_getElem? (i := 841) (by decide +kernel), List.mem_of_getElem? (i := 842) (by decide +kernel)⟩
theorem lw_p31 : lw_okq (⟨"LinearHistoriesModel", "doRegister", "(III)V"⟩, 35) := ⟨⟨by decide +kernel, by decide +kernel⟩, List.mem_of_getElem? (i := 661) (by decide +kernel), List.mem_of_getElem? (i := 845) (by decide +kernel), List.mem_of_getElem? (i := 846) (by decide +kernel)⟩
def lw_privs_2 : List (MethodName × Nat) := [(⟨"LinearHistories", "checkLinear", "(I)V"⟩, 15), (⟨"LinearHistories", "buildRow", "()V"⟩, 15), (⟨"LinearHistories", "allAtEnds", "()Z"⟩, 15), (⟨"LinearHistories", "placeNext", "(J)I"⟩, 15), (⟨"LinearHistories", "checkPlace", "(I)V"⟩, 15), (⟨"LinearHistoriesModel", "forget", "()V"⟩, 35), (⟨"LinearHistoriesModel", "change", "()V"⟩, 35), (⟨"LinearHistoriesModel", "noObject", "(I)Z"⟩, 35), (⟨"LinearHistoriesModel", "isIdle", "(I)Z"⟩, 35), (⟨"LinearHistoriesModel", "look", "(I)V"⟩, 35), (⟨"LinearHistoriesModel", "gather", "(IIIZ)I"⟩, 35), (⟨"LinearHistoriesModel", "can", "(IIIIZ)Z"⟩, 35), (⟨"LinearHistoriesModel", "isBefore", "(IIIZ)Z"⟩, 35), (⟨"LinearHistoriesModel", "isBack", "(II)Z"⟩, 35), (⟨"LinearHistoriesModel", "doIt", "(III)V"⟩, 35), (⟨"LinearHistoriesModel", "doRegister", "(III)V"⟩, 35)]
theorem lw_r2 : ∀ q ∈ lw_privs_2, lw_okq q := List.forall_mem_cons.mpr ⟨lw_p16, List.forall_mem_cons.mpr ⟨lw_p17, List.forall_mem_cons.mpr ⟨lw_p18, List.forall_mem_cons.mpr ⟨lw_p19, List.forall_mem_cons.mpr ⟨lw_p20, List.forall_mem_cons.mpr ⟨lw_p21, List.forall_mem_cons.mpr ⟨lw_p22, List.forall_mem_cons.mpr ⟨lw_p23, List.forall_mem_cons.mpr ⟨lw_p24, List.forall_mem_cons.mpr ⟨lw_p25, List.forall_mem_cons.mpr ⟨lw_p26, List.forall_mem_cons.mpr ⟨lw_p27, List.forall_mem_cons.mpr ⟨lw_p28, List.forall_mem_cons.mpr ⟨lw_p29, List.forall_mem_cons.mpr ⟨lw_p30, List.forall_mem_cons.mpr ⟨lw_p31, fun _ h => absurd h List.not_mem_nil⟩⟩⟩⟩⟩⟩⟩⟩⟩⟩⟩⟩⟩⟩⟩⟩
theorem lw_p32 : lw_okq (⟨"LinearHistoriesModel", "doSet", "(III)V"⟩, 35) := ⟨⟨by decide +kernel, by decide +kernel⟩, List.mem_of_getElem? (i := 661) (by decide +kernel), List.mem_of_getElem? (i := 849) (by decide +kernel), List.mem_of_getElem? (i := 850) (by decide +kernel)⟩
theorem lw_p33 : lw_okq (⟨"LinearHistoriesModel", "likeFirst", "(II)I"⟩, 35) := ⟨⟨by decide +kernel, by decide +kernel⟩, List.mem_of_getElem? (i := 661) (by decide +kernel), List.mem_of_getElem? (i := 853) (by decide +kernel), List.mem_of_getElem? (i := 854) (by decide +kernel)⟩
theorem lw_p34 : lw_okq (⟨"LinearHistoriesModel", "doMap", "(III)V"⟩, 35) := ⟨⟨by decide +kernel, by decide +kernel⟩, List.mem_of_getElem? (i := 661) (by decide +kernel), List.mem_of_getElem? (i := 858) (by decide +kernel), List.mem_of_getElem? (i := 859) (by decide +kernel)⟩
theorem lw_p35 : lw_okq (⟨"LinearHistoriesModel", "likeSecond", "(II)I"⟩, 35) := ⟨⟨by decide +kernel, by decide +kernel⟩, List.mem_of_getElem? (i := 661) (by decide +kernel), List.mem_of_getElem? (i := 864) (by decide +kernel), List.mem_of_getElem? (i := 865) (by decide +kernel)⟩
theorem lw_p36 : lw_okq (⟨"LinearHistoriesModel", "doRow", "(III)V"⟩, 35) := ⟨⟨by decide +kernel, by decide +kernel⟩, List.mem_of_getElem? (i := 661) (by decide +kernel), List.mem_of_getElem? (i := 868) (by decide +kernel), List.mem_of_getElem? (i := 869) (by decide +kernel)⟩
theorem lw_p37 : lw_okq (⟨"LinearHistoriesModel", "search", "(III)I"⟩, 35) := ⟨⟨by decide +kernel, by decide +kernel⟩, List.mem_of_getElem? (i := 661) (by decide +kernel), List.mem_of_getElem? (i := 877) (by decide +kernel), List.mem_of_getElem? (i := 878) (by decide +kernel)⟩
theorem lw_p38 : lw_okq (⟨"LinearHistoriesModel", "judgeOf", "(IIII)I"⟩, 35) := ⟨⟨by decide +kernel, by decide +kernel⟩, List.mem_of_getElem? (i := 661) (by decide +kernel), List.mem_of_getElem? (i := 881) (by decide +kernel), List.mem_of_getElem? (i := 882) (by decide +kernel)⟩
theorem lw_p39 : lw_okq (⟨"LinearHistoriesModel", "isEnd", "(III)Z"⟩, 35) := ⟨⟨by decide +kernel, by decide +kernel⟩, List.mem_of_getElem? (i := 661) (by decide +kernel), List.mem_of_getElem? (i := 885) (by decide +kernel), List.mem_of_getElem? (i := 886) (by decide +kernel)⟩
theorem lw_p40 : lw_okq (⟨"LinearHistoriesModel", "isTouched", "(II)Z"⟩, 35) := ⟨⟨by decide +kernel, by decide +kernel⟩, List.mem_of_getElem? (i := 661) (by decide +kernel), List.mem_of_getElem? (i := 910) (by decide +kernel), List.mem_of_getElem? (i := 911) (by decide +kernel)⟩
theorem lw_p41 : lw_okq (⟨"LinearHistoriesModel", "linearity", "()I"⟩, 35) := ⟨⟨by decide +kernel, by decide +kernel⟩, List.mem_of_getElem? (i := 661) (by decide +kernel), List.mem_of_getElem? (i := 918) (by decide +kernel), List.mem_of_getElem? (i := 919) (by decide +kernel)⟩
theorem lw_p42 : lw_okq (⟨"LinearHistoriesModel", "lay", "()Z"⟩, 35) := ⟨⟨by decide +kernel, by decide +kernel⟩, List.mem_of_getElem? (i := 661) (by decide +kernel), List.mem_of_getElem? (i := 926) (by decide +kernel), List.mem_of_getElem? (i := 927) (by decide +kernel)⟩
theorem lw_p43 : lw_okq (⟨"LinearHistoriesModel", "enliven", "(I)V"⟩, 35) := ⟨⟨by decide +kernel, by decide +kernel⟩, List.mem_of_getElem? (i := 661) (by decide +kernel), List.mem_of_getElem? (i := 930) (by decide +kernel), List.mem_of_getElem? (i := 931) (by decide +kernel)⟩
theorem lw_p44 : lw_okq (⟨"LinearHistoriesModel", "isWhole", "()Z"⟩, 35) := ⟨⟨by decide +kernel, by decide +kernel⟩, List.mem_of_getElem? (i := 661) (by decide +kernel), List.mem_of_getElem? (i := 934) (by decide +kernel), List.mem_of_getElem? (i := 935) (by decide +kernel)⟩
theorem lw_p45 : lw_okq (⟨"LinearHistoriesModel", "goesOn", "(I)Z"⟩, 35) := ⟨⟨by decide +kernel, by decide +kernel⟩, List.mem_of_getElem? (i := 661) (by decide +kernel), List.mem_of_getElem? (i := 938) (by decide +kernel), List.mem_of_getElem? (i := 939) (by decide +kernel)⟩
theorem lw_p46 : lw_okq (⟨"LinearHistoriesModel", "isDone", "(I)Z"⟩, 35) := ⟨⟨by decide +kernel, by decide +kernel⟩, List.mem_of_getElem? (i := 661) (by decide +kernel), List.mem_of_getElem? (i := 942) (by decide +kernel), List.mem_of_getElem? (i := 943) (by decide +kernel)⟩
def lw_privs_3 : List (MethodName × Nat) := [(⟨"LinearHistoriesModel", "doSet", "(III)V"⟩, 35), (⟨"LinearHistoriesModel", "likeFirst", "(II)I"⟩, 35), (⟨"LinearHistoriesModel", "doMap", "(III)V"⟩, 35), (⟨"LinearHistoriesModel", "likeSecond", "(II)I"⟩, 35), (⟨"LinearHistoriesModel", "doRow", "(III)V"⟩, 35), (⟨"LinearHistoriesModel", "search", "(III)I"⟩, 35), (⟨"LinearHistoriesModel", "judgeOf", "(IIII)I"⟩, 35), (⟨"LinearHistoriesModel", "isEnd", "(III)Z"⟩, 35), (⟨"LinearHistoriesModel", "isTouched", "(II)Z"⟩, 35), (⟨"LinearHistoriesModel", "linearity", "()I"⟩, 35), (⟨"LinearHistoriesModel", "lay", "()Z"⟩, 35), (⟨"LinearHistoriesModel", "enliven", "(I)V"⟩, 35), (⟨"LinearHistoriesModel", "isWhole", "()Z"⟩, 35), (⟨"LinearHistoriesModel", "goesOn", "(I)Z"⟩, 35), (⟨"LinearHistoriesModel", "isDone", "(I)Z"⟩, 35)]
theorem lw_r3 : ∀ q ∈ lw_privs_3, lw_okq q := List.forall_mem_cons.mpr ⟨lw_p32, List.forall_mem_cons.mpr ⟨lw_p33, List.forall_mem_cons.mpr ⟨lw_p34, List.forall_mem_cons.mpr ⟨lw_p35, List.forall_mem_cons.mpr ⟨lw_p36, List.forall_mem_cons.mpr ⟨lw_p37, List.forall_mem_cons.mpr ⟨lw_p38, List.forall_mem_cons.mpr ⟨lw_p39, List.forall_mem_cons.mpr ⟨lw_p40, List.forall_mem_cons.mpr ⟨lw_p41, List.forall_mem_cons.mpr ⟨lw_p42, List.forall_mem_cons.mpr ⟨lw_p43, List.forall_mem_cons.mpr ⟨lw_p44, List.forall_mem_cons.mpr ⟨lw_p45, List.forall_mem_cons.mpr ⟨lw_p46, fun _ h => absurd h List.not_mem_nil⟩⟩⟩⟩⟩⟩⟩⟩⟩⟩⟩⟩⟩⟩⟩
def lw_privs : List (MethodName × Nat) := lw_privs_1 ++ (lw_privs_2 ++ (lw_privs_3))
def lw_tbl : List Cond := k2_sels lw_privs ++ tables_1
theorem lw_privs_ok : ∀ q ∈ lw_privs, lw_okq q := by
  show ∀ q ∈ lw_privs_1 ++ (lw_privs_2 ++ (lw_privs_3)), lw_okq q
  exact List.forall_mem_append.mpr ⟨lw_r1, List.forall_mem_append.mpr ⟨lw_r2, lw_r3⟩⟩
end
section
def ROp : String := "LinearHistories$Operation"
def TOp : u_T := fun k => match k with
  | 0 => ("LinearHistories$Operation", "process", "I", false)
  | 1 => ("LinearHistories$Operation", "code", "I", false)
  | 2 => ("LinearHistories$Operation", "a", "I", false)
  | 3 => ("LinearHistories$Operation", "b", "I", false)
  | 4 => ("LinearHistories$Operation", "name", "I", false)
  | 5 => ("LinearHistories$Operation", "result", "I", false)
  | 6 => ("LinearHistories$Operation", "earlier", "I", false)
  | _ => ("LinearHistories$Operation", "ownEarlier", "I", false)
def tyOp : Nat → FieldType := fun k => match k with
  | 0 => .int
  | 1 => .int
  | 2 => .int
  | 3 => .int
  | 4 => .int
  | 5 => .int
  | 6 => .int
  | _ => .int
theorem nmOp : ∀ a, a < 8 → ∀ b, b < 8 → a ≠ b → (TOp a).2.1 ≠ (TOp b).2.1 := by decide +kernel
theorem tyOp_ok : ∀ k, k < 8 → parseFieldDescriptor (TOp k).2.2.1 = some (tyOp k) := by decide +kernel
def RSp : String := "LinearHistories$Space"
def TSp : u_T := fun k => match k with
  | 0 => ("LinearHistories$Space", "table", "LLinearHistories$Table;", true)
  | 1 => ("LinearHistories$Space", "state", "LLinearHistories$State;", true)
  | 2 => ("LinearHistories$Space", "ways", "[J", true)
  | 3 => ("LinearHistories$Space", "hopeful", "[Z", true)
  | 4 => ("LinearHistories$Space", "hopeMarked", "Z", false)
  | 5 => ("LinearHistories$Space", "count", "I", false)
  | 6 => ("LinearHistories$Space", "returned", "I", false)
  | _ => ("LinearHistories$Space", "own", "Z", false)
def tySp : Nat → FieldType := fun k => match k with
  | 0 => .object "LinearHistories$Table"
  | 1 => .object "LinearHistories$State"
  | 2 => .array .long
  | 3 => .array .boolean
  | 4 => .boolean
  | 5 => .int
  | 6 => .int
  | _ => .boolean
theorem nmSp : ∀ a, a < 8 → ∀ b, b < 8 → a ≠ b → (TSp a).2.1 ≠ (TSp b).2.1 := by decide +kernel
theorem tySp_ok : ∀ k, k < 8 → parseFieldDescriptor (TSp k).2.2.1 = some (tySp k) := by decide +kernel
def RSt : String := "LinearHistories$State"
def TSt : u_T := fun k => match k with
  | 0 => ("LinearHistories$State", "word", "J", false)
  | 1 => ("LinearHistories$State", "size", "I", false)
  | _ => ("LinearHistories$State", "result", "I", false)
def tySt : Nat → FieldType := fun k => match k with
  | 0 => .long
  | 1 => .int
  | _ => .int
theorem nmSt : ∀ a, a < 3 → ∀ b, b < 3 → a ≠ b → (TSt a).2.1 ≠ (TSt b).2.1 := by decide +kernel
theorem tySt_ok : ∀ k, k < 3 → parseFieldDescriptor (TSt k).2.2.1 = some (tySt k) := by decide +kernel
def RSu : String := "LinearHistories$Subject"
def TSu : u_T := fun k => match k with
  | 0 => ("LinearHistories$Subject", "operations", "[LLinearHistories$Operation;", true)
  | 1 => ("LinearHistories$Subject", "space", "LLinearHistories$Space;", true)
  | 2 => ("LinearHistories$Subject", "backEvents", "[I", true)
  | 3 => ("LinearHistories$Subject", "backCounts", "[I", true)
  | 4 => ("LinearHistories$Subject", "backSets", "[I", true)
  | 5 => ("LinearHistories$Subject", "kind", "I", false)
  | 6 => ("LinearHistories$Subject", "count", "I", false)
  | 7 => ("LinearHistories$Subject", "backs", "I", false)
  | 8 => ("LinearHistories$Subject", "returned", "I", false)
  | 9 => ("LinearHistories$Subject", "learned", "Z", false)
  | 10 => ("LinearHistories$Subject", "possibilityCount", "I", false)
  | 11 => ("LinearHistories$Subject", "judgement", "I", false)
  | 12 => ("LinearHistories$Subject", "wayCount", "J", false)
  | 13 => ("LinearHistories$Subject", "lastCount", "I", false)
  | 14 => ("LinearHistories$Subject", "ownLearned", "Z", false)
  | 15 => ("LinearHistories$Subject", "ownJudgement", "I", false)
  | 16 => ("LinearHistories$Subject", "backsLearned", "I", false)
  | _ => ("LinearHistories$Subject", "brokenAt", "I", false)
def tySu : Nat → FieldType := fun k => match k with
  | 0 => .array (.object "LinearHistories$Operation")
  | 1 => .object "LinearHistories$Space"
  | 2 => .array .int
  | 3 => .array .int
  | 4 => .array .int
  | 5 => .int
  | 6 => .int
  | 7 => .int
  | 8 => .int
  | 9 => .boolean
  | 10 => .int
  | 11 => .int
  | 12 => .long
  | 13 => .int
  | 14 => .boolean
  | 15 => .int
  | 16 => .int
  | _ => .int
theorem nmSu : ∀ a, a < 18 → ∀ b, b < 18 → a ≠ b → (TSu a).2.1 ≠ (TSu b).2.1 := by decide +kernel
theorem tySu_ok : ∀ k, k < 18 → parseFieldDescriptor (TSu k).2.2.1 = some (tySu k) := by decide +kernel
def RTa : String := "LinearHistories$Table"
def TTa : u_T := fun k => match k with
  | 0 => ("LinearHistories$Table", "keys", "[I", true)
  | 1 => ("LinearHistories$Table", "words", "[J", true)
  | 2 => ("LinearHistories$Table", "chains", "[I", true)
  | 3 => ("LinearHistories$Table", "links", "[I", true)
  | _ => ("LinearHistories$Table", "count", "I", false)
def tyTa : Nat → FieldType := fun k => match k with
  | 0 => .array .int
  | 1 => .array .long
  | 2 => .array .int
  | 3 => .array .int
  | _ => .int
theorem nmTa : ∀ a, a < 5 → ∀ b, b < 5 → a ≠ b → (TTa a).2.1 ≠ (TTa b).2.1 := by decide +kernel
theorem tyTa_ok : ∀ k, k < 5 → parseFieldDescriptor (TTa k).2.2.1 = some (tyTa k) := by decide +kernel
def RLH : String := "LinearHistories"
def TLH : u_T := fun k => match k with
  | 0 => ("LinearHistories", "subjects", "[LLinearHistories$Subject;", true)
  | 1 => ("LinearHistories", "owners", "[I", true)
  | 2 => ("LinearHistories", "places", "[I", true)
  | 3 => ("LinearHistories", "earlier", "[J", true)
  | 4 => ("LinearHistories", "waiting", "[I", true)
  | 5 => ("LinearHistories", "scratch", "LLinearHistories$Space;", true)
  | 6 => ("LinearHistories", "rowNumbers", "[I", true)
  | 7 => ("LinearHistories", "rowResults", "[I", true)
  | 8 => ("LinearHistories", "reached", "[I", true)
  | 9 => ("LinearHistories", "rowLength", "I", false)
  | 10 => ("LinearHistories", "rowBuilt", "Z", false)
  | 11 => ("LinearHistories", "objectCount", "I", false)
  | 12 => ("LinearHistories", "operationCount", "I", false)
  | 13 => ("LinearHistories", "eventCount", "I", false)
  | _ => ("LinearHistories", "cameBack", "J", false)
def tyLH : Nat → FieldType := fun k => match k with
  | 0 => .array (.object "LinearHistories$Subject")
  | 1 => .array .int
  | 2 => .array .int
  | 3 => .array .long
  | 4 => .array .int
  | 5 => .object "LinearHistories$Space"
  | 6 => .array .int
  | 7 => .array .int
  | 8 => .array .int
  | 9 => .int
  | 10 => .boolean
  | 11 => .int
  | 12 => .int
  | 13 => .int
  | _ => .long
theorem nmLH : ∀ a, a < 15 → ∀ b, b < 15 → a ≠ b → (TLH a).2.1 ≠ (TLH b).2.1 := by decide +kernel
theorem tyLH_ok : ∀ k, k < 15 → parseFieldDescriptor (TLH k).2.2.1 = some (tyLH k) := by decide +kernel
def RMo : String := "LinearHistoriesModel"
def TMo : u_T := fun k => match k with
  | 0 => ("LinearHistoriesModel", "thrown", "I", false)
  | 1 => ("LinearHistoriesModel", "objects", "I", false)
  | 2 => ("LinearHistoriesModel", "kinds", "[I", true)
  | 3 => ("LinearHistoriesModel", "counts", "[I", true)
  | 4 => ("LinearHistoriesModel", "list", "[I", true)
  | 5 => ("LinearHistoriesModel", "operations", "I", false)
  | 6 => ("LinearHistoriesModel", "process", "[I", true)
  | 7 => ("LinearHistoriesModel", "objectOf", "[I", true)
  | 8 => ("LinearHistoriesModel", "operation", "[I", true)
  | 9 => ("LinearHistoriesModel", "first", "[I", true)
  | 10 => ("LinearHistoriesModel", "second", "[I", true)
  | 11 => ("LinearHistoriesModel", "backWith", "[I", true)
  | 12 => ("LinearHistoriesModel", "calledAt", "[I", true)
  | 13 => ("LinearHistoriesModel", "backAt", "[I", true)
  | 14 => ("LinearHistoriesModel", "open", "[I", true)
  | 15 => ("LinearHistoriesModel", "events", "I", false)
  | 16 => ("LinearHistoriesModel", "masks", "[I", true)
  | 17 => ("LinearHistoriesModel", "states", "[J", true)
  | 18 => ("LinearHistoriesModel", "alive", "[Z", true)
  | 19 => ("LinearHistoriesModel", "rows", "[J", true)
  | 20 => ("LinearHistoriesModel", "known", "[Z", true)
  | 21 => ("LinearHistoriesModel", "found", "[I", true)
  | 22 => ("LinearHistoriesModel", "judged", "[I", true)
  | 23 => ("LinearHistoriesModel", "ways", "[J", true)
  | 24 => ("LinearHistoriesModel", "lasts", "[I", true)
  | 25 => ("LinearHistoriesModel", "brokenAt", "[I", true)
  | 26 => ("LinearHistoriesModel", "knownBroken", "[Z", true)
  | 27 => ("LinearHistoriesModel", "state", "J", false)
  | 28 => ("LinearHistoriesModel", "things", "I", false)
  | 29 => ("LinearHistoriesModel", "told", "I", false)
  | 30 => ("LinearHistoriesModel", "knownRow", "Z", false)
  | 31 => ("LinearHistoriesModel", "length", "I", false)
  | 32 => ("LinearHistoriesModel", "row", "[I", true)
  | 33 => ("LinearHistoriesModel", "results", "[I", true)
  | _ => ("LinearHistoriesModel", "at", "[I", true)
def tyMo : Nat → FieldType := fun k => match k with
  | 0 => .int
  | 1 => .int
  | 2 => .array .int
  | 3 => .array .int
  | 4 => .array .int
  | 5 => .int
  | 6 => .array .int
  | 7 => .array .int
  | 8 => .array .int
  | 9 => .array .int
  | 10 => .array .int
  | 11 => .array .int
  | 12 => .array .int
  | 13 => .array .int
  | 14 => .array .int
  | 15 => .int
  | 16 => .array .int
  | 17 => .array .long
  | 18 => .array .boolean
  | 19 => .array .long
  | 20 => .array .boolean
  | 21 => .array .int
  | 22 => .array .int
  | 23 => .array .long
  | 24 => .array .int
  | 25 => .array .int
  | 26 => .array .boolean
  | 27 => .long
  | 28 => .int
  | 29 => .int
  | 30 => .boolean
  | 31 => .int
  | 32 => .array .int
  | 33 => .array .int
  | _ => .array .int
theorem nmMo : ∀ a, a < 35 → ∀ b, b < 35 → a ≠ b → (TMo a).2.1 ≠ (TMo b).2.1 := by decide +kernel
theorem tyMo_ok : ∀ k, k < 35 → parseFieldDescriptor (TMo k).2.2.1 = some (tyMo k) := by decide +kernel
def RLa : String := "LinearHistoriesLaw"
def RAr : String := "java/util/Arrays"
abbrev vcl : List vw_C := [(ROp, TOp, 8), (RSp, TSp, 8), (RSt, TSt, 3), (RSu, TSu, 18), (RTa, TTa, 5), (RLH, TLH, 15), (RMo, TMo, 35)]
abbrev bLH_init : ByteArray := prog_1_method_1_code
def yLH_init : MethodName := ⟨RLH, "<init>", "()V"⟩
abbrev bSp_init : ByteArray := prog_3_method_1_code
def ySp_init : MethodName := ⟨RSp, "<init>", "()V"⟩
abbrev bTa_init : ByteArray := prog_6_method_1_code
def yTa_init : MethodName := ⟨RTa, "<init>", "()V"⟩
abbrev bSt_init : ByteArray := prog_4_method_1_code
def ySt_init : MethodName := ⟨RSt, "<init>", "()V"⟩
abbrev bAr_fill : ByteArray := prog_16_method_103_code
def yAr_fill : MethodName := ⟨RAr, "fill", "([II)V"⟩
abbrev bLH_clear : ByteArray := prog_1_method_6_code
def yLH_clear : MethodName := ⟨RLH, "clear", "()I"⟩
abbrev bLH_events : ByteArray := prog_1_method_7_code
def yLH_events : MethodName := ⟨RLH, "events", "()I"⟩
abbrev bLH_linear : ByteArray := prog_1_method_14_code
def yLH_linear : MethodName := ⟨RLH, "linear", "()I"⟩
abbrev bLH_subjectOf : ByteArray := prog_1_method_22_code
def yLH_subjectOf : MethodName := ⟨RLH, "subjectOf", "(I)LLinearHistories$Subject;"⟩
abbrev bSu_learn : ByteArray := prog_5_method_10_code
def ySu_learn : MethodName := ⟨RSu, "learn", "(LLinearHistories$Space;)V"⟩
abbrev bSp_explore : ByteArray := prog_3_method_2_code
def ySp_explore : MethodName := ⟨RSp, "explore", "(LLinearHistories$Subject;IIZ)Z"⟩
abbrev bTa_makeEmpty : ByteArray := prog_6_method_2_code
def yTa_makeEmpty : MethodName := ⟨RTa, "makeEmpty", "()V"⟩
abbrev bTa_keep : ByteArray := prog_6_method_4_code
def yTa_keep : MethodName := ⟨RTa, "keep", "(IJ)I"⟩
abbrev bTa_chainOf : ByteArray := prog_6_method_5_code
def yTa_chainOf : MethodName := ⟨RTa, "chainOf", "(IJ)I"⟩
abbrev bTa_findIn : ByteArray := prog_6_method_6_code
def yTa_findIn : MethodName := ⟨RTa, "findIn", "(IIJ)I"⟩
abbrev bSp_step : ByteArray := prog_3_method_3_code
def ySp_step : MethodName := ⟨RSp, "step", "(LLinearHistories$Subject;II)Z"⟩
abbrev bSt_become : ByteArray := prog_4_method_2_code
def ySt_become : MethodName := ⟨RSt, "become", "(JI)V"⟩
abbrev bSt_change : ByteArray := prog_4_method_3_code
def ySt_change : MethodName := ⟨RSt, "change", "(ILLinearHistories$Operation;[LLinearHistories$Operation;)V"⟩
abbrev bSt_changeRegister : ByteArray := prog_4_method_4_code
def ySt_changeRegister : MethodName := ⟨RSt, "changeRegister", "(LLinearHistories$Operation;)I"⟩
abbrev bSt_changeSet : ByteArray := prog_4_method_9_code
def ySt_changeSet : MethodName := ⟨RSt, "changeSet", "(LLinearHistories$Operation;)I"⟩
abbrev bSt_changeMap : ByteArray := prog_4_method_10_code
def ySt_changeMap : MethodName := ⟨RSt, "changeMap", "(LLinearHistories$Operation;[LLinearHistories$Operation;)I"⟩
abbrev bSt_changeSequence : ByteArray := prog_4_method_5_code
def ySt_changeSequence : MethodName := ⟨RSt, "changeSequence", "(ILLinearHistories$Operation;[LLinearHistories$Operation;)I"⟩
abbrev bSt_placeInHeap : ByteArray := prog_4_method_6_code
def ySt_placeInHeap : MethodName := ⟨RSt, "placeInHeap", "(I[LLinearHistories$Operation;)I"⟩
abbrev bSt_insertAt : ByteArray := prog_4_method_7_code
def ySt_insertAt : MethodName := ⟨RSt, "insertAt", "(II)V"⟩
abbrev bSt_removeAt : ByteArray := prog_4_method_8_code
def ySt_removeAt : MethodName := ⟨RSt, "removeAt", "(I)I"⟩
abbrev bSp_keyBehind : ByteArray := prog_3_method_4_code
def ySp_keyBehind : MethodName := ⟨RSp, "keyBehind", "(II)I"⟩
abbrev bSp_waysToEnds : ByteArray := prog_3_method_7_code
def ySp_waysToEnds : MethodName := ⟨RSp, "waysToEnds", "()J"⟩
abbrev bSp_isEnd : ByteArray := prog_3_method_6_code
def ySp_isEnd : MethodName := ⟨RSp, "isEnd", "(I)Z"⟩
abbrev bSp_statesAtEnds : ByteArray := prog_3_method_8_code
def ySp_statesAtEnds : MethodName := ⟨RSp, "statesAtEnds", "(LLinearHistories$Table;)I"⟩
abbrev bLa_object : ByteArray := method_3_code
def yLa_object : MethodName := ⟨RLa, "object", "(LLinearHistories;I[J)I"⟩
abbrev bLH_object : ByteArray := prog_1_method_2_code
def yLH_object : MethodName := ⟨RLH, "object", "(I)I"⟩
abbrev bSu_init : ByteArray := prog_5_method_1_code
def ySu_init : MethodName := ⟨RSu, "<init>", "()V"⟩
abbrev bOp_init : ByteArray := prog_2_method_1_code
def yOp_init : MethodName := ⟨ROp, "<init>", "()V"⟩
abbrev bSu_begin : ByteArray := prog_5_method_2_code
def ySu_begin : MethodName := ⟨RSu, "begin", "(I)V"⟩
abbrev bSu_forget : ByteArray := prog_5_method_3_code
def ySu_forget : MethodName := ⟨RSu, "forget", "()V"⟩
abbrev bLa_call : ByteArray := method_4_code
def yLa_call : MethodName := ⟨RLa, "call", "(LLinearHistories;IIIII[J)I"⟩
abbrev bLH_call : ByteArray := prog_1_method_3_code
def yLH_call : MethodName := ⟨RLH, "call", "(IIIII)I"⟩
abbrev bLH_checkProcess : ByteArray := prog_1_method_20_code
def yLH_checkProcess : MethodName := ⟨RLH, "checkProcess", "(I)V"⟩
abbrev bSu_operationsOfKind : ByteArray := prog_5_method_4_code
def ySu_operationsOfKind : MethodName := ⟨RSu, "operationsOfKind", "()I"⟩
abbrev bSu_addOperation : ByteArray := prog_5_method_5_code
def ySu_addOperation : MethodName := ⟨RSu, "addOperation", "(IIII)V"⟩
abbrev bSu_placesOf : ByteArray := prog_5_method_6_code
def ySu_placesOf : MethodName := ⟨RSu, "placesOf", "(I)I"⟩
abbrev bSu_numberOf : ByteArray := prog_5_method_8_code
def ySu_numberOf : MethodName := ⟨RSu, "numberOf", "(LLinearHistories$Operation;)I"⟩
abbrev bSu_nameOf : ByteArray := prog_5_method_7_code
def ySu_nameOf : MethodName := ⟨RSu, "nameOf", "(I)I"⟩
abbrev bLa_back : ByteArray := method_5_code
def yLa_back : MethodName := ⟨RLa, "back", "(LLinearHistories;II)I"⟩
abbrev bLH_back : ByteArray := prog_1_method_4_code
def yLH_back : MethodName := ⟨RLH, "back", "(II)V"⟩
abbrev bLH_operationOf : ByteArray := prog_1_method_21_code
def yLH_operationOf : MethodName := ⟨RLH, "operationOf", "(I)I"⟩
abbrev bSu_endOperation : ByteArray := prog_5_method_9_code
def ySu_endOperation : MethodName := ⟨RSu, "endOperation", "(III)V"⟩
abbrev bLa_lose : ByteArray := method_6_code
def yLa_lose : MethodName := ⟨RLa, "lose", "(LLinearHistories;I)I"⟩
abbrev bLH_lose : ByteArray := prog_1_method_5_code
def yLH_lose : MethodName := ⟨RLH, "lose", "(I)V"⟩
abbrev bLa_possibilities : ByteArray := method_7_code
def yLa_possibilities : MethodName := ⟨RLa, "possibilities", "(LLinearHistories;I[J)I"⟩
abbrev bLH_possibilities : ByteArray := prog_1_method_8_code
def yLH_possibilities : MethodName := ⟨RLH, "possibilities", "(I)I"⟩
abbrev bLH_learnedSubject : ByteArray := prog_1_method_23_code
def yLH_learnedSubject : MethodName := ⟨RLH, "learnedSubject", "(I)LLinearHistories$Subject;"⟩
abbrev bLa_judge : ByteArray := method_8_code
def yLa_judge : MethodName := ⟨RLa, "judge", "(LLinearHistories;I[J)I"⟩
abbrev bLH_judge : ByteArray := prog_1_method_9_code
def yLH_judge : MethodName := ⟨RLH, "judge", "(I)I"⟩
abbrev bLa_judgeOwn : ByteArray := method_9_code
def yLa_judgeOwn : MethodName := ⟨RLa, "judgeOwn", "(LLinearHistories;I[J)I"⟩
abbrev bLH_judgeOwn : ByteArray := prog_1_method_10_code
def yLH_judgeOwn : MethodName := ⟨RLH, "judgeOwn", "(I)I"⟩
abbrev bSu_learnOwn : ByteArray := prog_5_method_11_code
def ySu_learnOwn : MethodName := ⟨RSu, "learnOwn", "(LLinearHistories$Space;)V"⟩
abbrev bLa_ways : ByteArray := method_10_code
def yLa_ways : MethodName := ⟨RLa, "ways", "(LLinearHistories;I[J)I"⟩
abbrev bLH_ways : ByteArray := prog_1_method_11_code
def yLH_ways : MethodName := ⟨RLH, "ways", "(I)J"⟩
abbrev bLa_lasts : ByteArray := method_11_code
def yLa_lasts : MethodName := ⟨RLa, "lasts", "(LLinearHistories;I[J)I"⟩
abbrev bLH_lasts : ByteArray := prog_1_method_12_code
def yLH_lasts : MethodName := ⟨RLH, "lasts", "(I)I"⟩
abbrev bLa_broken : ByteArray := method_12_code
def yLa_broken : MethodName := ⟨RLa, "broken", "(LLinearHistories;I[J)I"⟩
abbrev bLH_broken : ByteArray := prog_1_method_13_code
def yLH_broken : MethodName := ⟨RLH, "broken", "(I)I"⟩
abbrev bSu_learnBreak : ByteArray := prog_5_method_12_code
def ySu_learnBreak : MethodName := ⟨RSu, "learnBreak", "(LLinearHistories$Space;)V"⟩
abbrev bLa_length : ByteArray := method_13_code
def yLa_length : MethodName := ⟨RLa, "length", "(LLinearHistories;[J)I"⟩
abbrev bLH_length : ByteArray := prog_1_method_15_code
def yLH_length : MethodName := ⟨RLH, "length", "()I"⟩
abbrev bLH_checkLinear : ByteArray := prog_1_method_18_code
def yLH_checkLinear : MethodName := ⟨RLH, "checkLinear", "(I)V"⟩
abbrev bLH_buildRow : ByteArray := prog_1_method_24_code
def yLH_buildRow : MethodName := ⟨RLH, "buildRow", "()V"⟩
abbrev bSp_markHopeful : ByteArray := prog_3_method_9_code
def ySp_markHopeful : MethodName := ⟨RSp, "markHopeful", "(LLinearHistories$Subject;)V"⟩
abbrev bSp_target : ByteArray := prog_3_method_5_code
def ySp_target : MethodName := ⟨RSp, "target", "(LLinearHistories$Subject;II)I"⟩
abbrev bTa_find : ByteArray := prog_6_method_3_code
def yTa_find : MethodName := ⟨RTa, "find", "(IJ)I"⟩
abbrev bLH_allAtEnds : ByteArray := prog_1_method_25_code
def yLH_allAtEnds : MethodName := ⟨RLH, "allAtEnds", "()Z"⟩
abbrev bLH_placeNext : ByteArray := prog_1_method_26_code
def yLH_placeNext : MethodName := ⟨RLH, "placeNext", "(J)I"⟩
abbrev bLa_row : ByteArray := method_14_code
def yLa_row : MethodName := ⟨RLa, "row", "(LLinearHistories;I[J)I"⟩
abbrev bLH_row : ByteArray := prog_1_method_16_code
def yLH_row : MethodName := ⟨RLH, "row", "(I)I"⟩
abbrev bLH_checkPlace : ByteArray := prog_1_method_19_code
def yLH_checkPlace : MethodName := ⟨RLH, "checkPlace", "(I)V"⟩
abbrev bLa_result : ByteArray := method_15_code
def yLa_result : MethodName := ⟨RLa, "result", "(LLinearHistories;I[J)I"⟩
abbrev bLH_result : ByteArray := prog_1_method_17_code
def yLH_result : MethodName := ⟨RLH, "result", "(I)I"⟩
abbrev bMo_init : ByteArray := prog_8_method_1_code
def yMo_init : MethodName := ⟨RMo, "<init>", "()V"⟩
abbrev bMo_forget : ByteArray := prog_8_method_3_code
def yMo_forget : MethodName := ⟨RMo, "forget", "()V"⟩
abbrev bMo_change : ByteArray := prog_8_method_4_code
def yMo_change : MethodName := ⟨RMo, "change", "()V"⟩
abbrev bMo_thrown : ByteArray := prog_8_method_2_code
def yMo_thrown : MethodName := ⟨RMo, "thrown", "()I"⟩
abbrev bMo_object : ByteArray := prog_8_method_5_code
def yMo_object : MethodName := ⟨RMo, "object", "(I)I"⟩
abbrev bMo_call : ByteArray := prog_8_method_7_code
def yMo_call : MethodName := ⟨RMo, "call", "(IIIII)I"⟩
abbrev bMo_noObject : ByteArray := prog_8_method_6_code
def yMo_noObject : MethodName := ⟨RMo, "noObject", "(I)Z"⟩
abbrev bMo_back : ByteArray := prog_8_method_9_code
def yMo_back : MethodName := ⟨RMo, "back", "(II)V"⟩
abbrev bMo_isIdle : ByteArray := prog_8_method_8_code
def yMo_isIdle : MethodName := ⟨RMo, "isIdle", "(I)Z"⟩
abbrev bMo_lose : ByteArray := prog_8_method_10_code
def yMo_lose : MethodName := ⟨RMo, "lose", "(I)V"⟩
abbrev bMo_clear : ByteArray := prog_8_method_11_code
def yMo_clear : MethodName := ⟨RMo, "clear", "()I"⟩
abbrev bMo_events : ByteArray := prog_8_method_12_code
def yMo_events : MethodName := ⟨RMo, "events", "()I"⟩
abbrev bMo_possibilities : ByteArray := prog_8_method_29_code
def yMo_possibilities : MethodName := ⟨RMo, "possibilities", "(I)I"⟩
abbrev bMo_look : ByteArray := prog_8_method_28_code
def yMo_look : MethodName := ⟨RMo, "look", "(I)V"⟩
abbrev bMo_gather : ByteArray := prog_8_method_25_code
def yMo_gather : MethodName := ⟨RMo, "gather", "(IIIZ)I"⟩
abbrev bMo_can : ByteArray := prog_8_method_23_code
def yMo_can : MethodName := ⟨RMo, "can", "(IIIIZ)Z"⟩
abbrev bMo_isBefore : ByteArray := prog_8_method_22_code
def yMo_isBefore : MethodName := ⟨RMo, "isBefore", "(IIIZ)Z"⟩
abbrev bMo_isBack : ByteArray := prog_8_method_21_code
def yMo_isBack : MethodName := ⟨RMo, "isBack", "(II)Z"⟩
abbrev bMo_doIt : ByteArray := prog_8_method_20_code
def yMo_doIt : MethodName := ⟨RMo, "doIt", "(III)V"⟩
abbrev bMo_doRegister : ByteArray := prog_8_method_16_code
def yMo_doRegister : MethodName := ⟨RMo, "doRegister", "(III)V"⟩
abbrev bMo_doSet : ByteArray := prog_8_method_18_code
def yMo_doSet : MethodName := ⟨RMo, "doSet", "(III)V"⟩
abbrev bMo_likeFirst : ByteArray := prog_8_method_13_code
def yMo_likeFirst : MethodName := ⟨RMo, "likeFirst", "(II)I"⟩
abbrev bMo_doMap : ByteArray := prog_8_method_19_code
def yMo_doMap : MethodName := ⟨RMo, "doMap", "(III)V"⟩
abbrev bMo_likeSecond : ByteArray := prog_8_method_14_code
def yMo_likeSecond : MethodName := ⟨RMo, "likeSecond", "(II)I"⟩
abbrev bMo_doRow : ByteArray := prog_8_method_17_code
def yMo_doRow : MethodName := ⟨RMo, "doRow", "(III)V"⟩
abbrev bMo_thing : ByteArray := prog_8_method_15_code
def yMo_thing : MethodName := ⟨RMo, "thing", "(JI)I"⟩
abbrev bMo_search : ByteArray := prog_8_method_24_code
def yMo_search : MethodName := ⟨RMo, "search", "(III)I"⟩
abbrev bMo_judgeOf : ByteArray := prog_8_method_27_code
def yMo_judgeOf : MethodName := ⟨RMo, "judgeOf", "(IIII)I"⟩
abbrev bMo_isEnd : ByteArray := prog_8_method_26_code
def yMo_isEnd : MethodName := ⟨RMo, "isEnd", "(III)Z"⟩
abbrev bMo_judge : ByteArray := prog_8_method_30_code
def yMo_judge : MethodName := ⟨RMo, "judge", "(I)I"⟩
abbrev bMo_judgeOwn : ByteArray := prog_8_method_31_code
def yMo_judgeOwn : MethodName := ⟨RMo, "judgeOwn", "(I)I"⟩
abbrev bMo_ways : ByteArray := prog_8_method_32_code
def yMo_ways : MethodName := ⟨RMo, "ways", "(I)J"⟩
abbrev bMo_lasts : ByteArray := prog_8_method_33_code
def yMo_lasts : MethodName := ⟨RMo, "lasts", "(I)I"⟩
abbrev bMo_broken : ByteArray := prog_8_method_35_code
def yMo_broken : MethodName := ⟨RMo, "broken", "(I)I"⟩
abbrev bMo_isTouched : ByteArray := prog_8_method_34_code
def yMo_isTouched : MethodName := ⟨RMo, "isTouched", "(II)Z"⟩
abbrev bMo_linear : ByteArray := prog_8_method_37_code
def yMo_linear : MethodName := ⟨RMo, "linear", "()I"⟩
abbrev bMo_linearity : ByteArray := prog_8_method_36_code
def yMo_linearity : MethodName := ⟨RMo, "linearity", "()I"⟩
abbrev bMo_length : ByteArray := prog_8_method_43_code
def yMo_length : MethodName := ⟨RMo, "length", "()I"⟩
abbrev bMo_lay : ByteArray := prog_8_method_42_code
def yMo_lay : MethodName := ⟨RMo, "lay", "()Z"⟩
abbrev bMo_enliven : ByteArray := prog_8_method_38_code
def yMo_enliven : MethodName := ⟨RMo, "enliven", "(I)V"⟩
abbrev bMo_isWhole : ByteArray := prog_8_method_41_code
def yMo_isWhole : MethodName := ⟨RMo, "isWhole", "()Z"⟩
abbrev bMo_goesOn : ByteArray := prog_8_method_40_code
def yMo_goesOn : MethodName := ⟨RMo, "goesOn", "(I)Z"⟩
abbrev bMo_isDone : ByteArray := prog_8_method_39_code
def yMo_isDone : MethodName := ⟨RMo, "isDone", "(I)Z"⟩
abbrev bMo_row : ByteArray := prog_8_method_44_code
def yMo_row : MethodName := ⟨RMo, "row", "(I)I"⟩
abbrev bMo_result : ByteArray := prog_8_method_45_code
def yMo_result : MethodName := ⟨RMo, "result", "(I)I"⟩
abbrev bLa_law : ByteArray := code
def yLa_law : MethodName := ⟨RLa, "law", "([I)Z"⟩
def TB : List Cond := lw_tbl.filter goodWord
theorem tb_t {w : Cond} (i : Nat) (h : tables_1[i]? = some w) (g : goodWord w = true) : w ∈ TB := List.mem_filter.mpr ⟨List.mem_append_right _ (List.mem_of_getElem? h), g⟩
theorem tb_s {w : Cond} (i : Nat) (h : (k2_sels lw_privs)[i]? = some w) (g : goodWord w = true) : w ∈ TB := List.mem_filter.mpr ⟨List.mem_append_left _ (List.mem_of_getElem? h), g⟩
end
section
theorem w0 : Cond.initialized "LinearHistoriesLaw" ∈ TB := tb_t 0 (by decide +kernel) (by decide +kernel)
theorem w1 : Cond.initialized "LinearHistories" ∈ TB := tb_t 1 (by decide +kernel) (by decide +kernel)
theorem w2 : Cond.initialized "LinearHistories$Space" ∈ TB := tb_t 2 (by decide +kernel) (by decide +kernel)
theorem w3 : Cond.initialized "LinearHistories$Table" ∈ TB := tb_t 3 (by decide +kernel) (by decide +kernel)
theorem w4 : Cond.initialized "LinearHistories$State" ∈ TB := tb_t 4 (by decide +kernel) (by decide +kernel)
theorem w5 : Cond.initialized "java/util/Arrays" ∈ TB := tb_t 5 (by decide +kernel) (by decide +kernel)
theorem w6 : Cond.initialized "LinearHistoriesModel" ∈ TB := tb_t 6 (by decide +kernel) (by decide +kernel)
theorem w7 : Cond.initialized "java/lang/Throwable" ∈ TB := tb_t 7 (by decide +kernel) (by decide +kernel)
theorem w8 : Cond.initialized "java/lang/Exception" ∈ TB := tb_t 8 (by decide +kernel) (by decide +kernel)
theorem w9 : Cond.initialized "java/lang/RuntimeException" ∈ TB := tb_t 9 (by decide +kernel) (by decide +kernel)
theorem w10 : Cond.initialized "java/lang/IllegalArgumentException" ∈ TB := tb_t 10 (by decide +kernel) (by decide +kernel)
theorem w11 : Cond.initialized "LinearHistories$Subject" ∈ TB := tb_t 11 (by decide +kernel) (by decide +kernel)
theorem w12 : Cond.initialized "LinearHistories$Operation" ∈ TB := tb_t 12 (by decide +kernel) (by decide +kernel)
theorem w13 : Cond.initialized "java/lang/IllegalStateException" ∈ TB := tb_t 13 (by decide +kernel) (by decide +kernel)
theorem w14 : Cond.initialized "java/lang/IndexOutOfBoundsException" ∈ TB := tb_t 14 (by decide +kernel) (by decide +kernel)
theorem w15 : Cond.classLink "LinearHistoriesLaw" 8 "LinearHistories" ∈ TB := tb_t 15 (by decide +kernel) (by decide +kernel)
theorem w16 : Cond.instantiable "LinearHistories" 15 ∈ TB := tb_t 16 (by decide +kernel) (by decide +kernel)
theorem w17 : Cond.methodLink "LinearHistoriesLaw" 60 yLH_init ∈ TB := tb_t 17 (by decide +kernel) (by decide +kernel)
theorem w18 : Cond.instanceMethod yLH_init ∈ TB := tb_t 18 (by decide +kernel) (by decide +kernel)
theorem w19 : Cond.code yLH_init prog_1_method_1_code 1 (Option.none : Option Jvm.ClassFile.FieldType) ∈ TB := tb_t 19 (by decide +kernel) (by decide +kernel)
theorem w20 : Cond.methodLink "LinearHistories" 1 ⟨"java/lang/Object", "<init>", "()V"⟩ ∈ TB := tb_t 20 (by decide +kernel) (by decide +kernel)
theorem w21 : Cond.instanceMethod ⟨"java/lang/Object", "<init>", "()V"⟩ ∈ TB := tb_t 21 (by decide +kernel) (by decide +kernel)
theorem w22 : Cond.code ⟨"java/lang/Object", "<init>", "()V"⟩ object_method_1_code 1 (Option.none : Option Jvm.ClassFile.FieldType) ∈ TB := tb_t 22 (by decide +kernel) (by decide +kernel)
theorem w23 : Cond.classLink "LinearHistories" 9 "LinearHistories$Subject" ∈ TB := tb_t 23 (by decide +kernel) (by decide +kernel)
theorem w25 : Cond.classLink "LinearHistories" 29 "LinearHistories$Space" ∈ TB := tb_t 25 (by decide +kernel) (by decide +kernel)
theorem w26 : Cond.instantiable "LinearHistories$Space" 8 ∈ TB := tb_t 26 (by decide +kernel) (by decide +kernel)
theorem w28 : Cond.instanceMethod ySp_init ∈ TB := tb_t 28 (by decide +kernel) (by decide +kernel)
theorem w29 : Cond.code ySp_init prog_3_method_1_code 1 (Option.none : Option Jvm.ClassFile.FieldType) ∈ TB := tb_t 29 (by decide +kernel) (by decide +kernel)
theorem w30 : Cond.methodLink "LinearHistories$Space" 3 ⟨"java/lang/Object", "<init>", "()V"⟩ ∈ TB := tb_t 30 (by decide +kernel) (by decide +kernel)
theorem w31 : Cond.classLink "LinearHistories$Space" 9 "LinearHistories$Table" ∈ TB := tb_t 31 (by decide +kernel) (by decide +kernel)
theorem w32 : Cond.instantiable "LinearHistories$Table" 5 ∈ TB := tb_t 32 (by decide +kernel) (by decide +kernel)
theorem w34 : Cond.instanceMethod yTa_init ∈ TB := tb_t 34 (by decide +kernel) (by decide +kernel)
theorem w35 : Cond.code yTa_init prog_6_method_1_code 1 (Option.none : Option Jvm.ClassFile.FieldType) ∈ TB := tb_t 35 (by decide +kernel) (by decide +kernel)
theorem w36 : Cond.methodLink "LinearHistories$Table" 3 ⟨"java/lang/Object", "<init>", "()V"⟩ ∈ TB := tb_t 36 (by decide +kernel) (by decide +kernel)
theorem w37 : Cond.fieldLink "LinearHistories$Table" 9 "LinearHistories$Table" "keys" "[I" ∈ TB := tb_t 37 (by decide +kernel) (by decide +kernel)
theorem w38 : Cond.fieldLink "LinearHistories$Space" 67 "LinearHistories$Table" "keys" "[I" ∈ TB := tb_t 38 (by decide +kernel) (by decide +kernel)
theorem w39 : Cond.fieldLink "LinearHistories$Table" 15 "LinearHistories$Table" "words" "[J" ∈ TB := tb_t 39 (by decide +kernel) (by decide +kernel)
theorem w40 : Cond.fieldLink "LinearHistories$Space" 86 "LinearHistories$Table" "words" "[J" ∈ TB := tb_t 40 (by decide +kernel) (by decide +kernel)
theorem w41 : Cond.fieldLink "LinearHistories$Table" 19 "LinearHistories$Table" "chains" "[I" ∈ TB := tb_t 41 (by decide +kernel) (by decide +kernel)
theorem w42 : Cond.fieldLink "LinearHistories$Table" 22 "LinearHistories$Table" "links" "[I" ∈ TB := tb_t 42 (by decide +kernel) (by decide +kernel)
theorem w43 : Cond.fieldLink "LinearHistories$Table" 25 "LinearHistories$Table" "count" "I" ∈ TB := tb_t 43 (by decide +kernel) (by decide +kernel)
theorem w44 : Cond.fieldLink "LinearHistories$Space" 54 "LinearHistories$Table" "count" "I" ∈ TB := tb_t 44 (by decide +kernel) (by decide +kernel)
theorem w45 : Cond.fieldLink "LinearHistories$Subject" 107 "LinearHistories$Table" "count" "I" ∈ TB := tb_t 45 (by decide +kernel) (by decide +kernel)
theorem w57 : Cond.arrayClass Jvm.ClassFile.FieldType.int ∈ TB := tb_t 57 (by decide +kernel) (by decide +kernel)
theorem w58 : Cond.arrayClass Jvm.ClassFile.FieldType.long ∈ TB := tb_t 58 (by decide +kernel) (by decide +kernel)
theorem w59 : Cond.classLink "LinearHistories$Space" 18 "LinearHistories$State" ∈ TB := tb_t 59 (by decide +kernel) (by decide +kernel)
theorem w60 : Cond.instantiable "LinearHistories$State" 3 ∈ TB := tb_t 60 (by decide +kernel) (by decide +kernel)
theorem w62 : Cond.instanceMethod ySt_init ∈ TB := tb_t 62 (by decide +kernel) (by decide +kernel)
theorem w63 : Cond.code ySt_init prog_4_method_1_code 1 (Option.none : Option Jvm.ClassFile.FieldType) ∈ TB := tb_t 63 (by decide +kernel) (by decide +kernel)
theorem w64 : Cond.methodLink "LinearHistories$State" 3 ⟨"java/lang/Object", "<init>", "()V"⟩ ∈ TB := tb_t 64 (by decide +kernel) (by decide +kernel)
theorem w65 : Cond.fieldLink "LinearHistories$State" 9 "LinearHistories$State" "word" "J" ∈ TB := tb_t 65 (by decide +kernel) (by decide +kernel)
theorem w66 : Cond.fieldLink "LinearHistories$Space" 63 "LinearHistories$State" "word" "J" ∈ TB := tb_t 66 (by decide +kernel) (by decide +kernel)
theorem w67 : Cond.fieldLink "LinearHistories$State" 15 "LinearHistories$State" "size" "I" ∈ TB := tb_t 67 (by decide +kernel) (by decide +kernel)
theorem w68 : Cond.fieldLink "LinearHistories$Space" 104 "LinearHistories$State" "size" "I" ∈ TB := tb_t 68 (by decide +kernel) (by decide +kernel)
theorem w69 : Cond.fieldLink "LinearHistories$State" 23 "LinearHistories$State" "result" "I" ∈ TB := tb_t 69 (by decide +kernel) (by decide +kernel)
theorem w70 : Cond.fieldLink "LinearHistories$Space" 100 "LinearHistories$State" "result" "I" ∈ TB := tb_t 70 (by decide +kernel) (by decide +kernel)
theorem w71 : Cond.fieldLink "LinearHistories" 206 "LinearHistories$State" "result" "I" ∈ TB := tb_t 71 (by decide +kernel) (by decide +kernel)
theorem w79 : Cond.fieldLink "LinearHistories$Space" 12 "LinearHistories$Space" "table" "LLinearHistories$Table;" ∈ TB := tb_t 79 (by decide +kernel) (by decide +kernel)
theorem w80 : Cond.fieldLink "LinearHistories$Subject" 103 "LinearHistories$Space" "table" "LLinearHistories$Table;" ∈ TB := tb_t 80 (by decide +kernel) (by decide +kernel)
theorem w81 : Cond.fieldLink "LinearHistories$Space" 21 "LinearHistories$Space" "state" "LLinearHistories$State;" ∈ TB := tb_t 81 (by decide +kernel) (by decide +kernel)
theorem w82 : Cond.fieldLink "LinearHistories" 202 "LinearHistories$Space" "state" "LLinearHistories$State;" ∈ TB := tb_t 82 (by decide +kernel) (by decide +kernel)
theorem w83 : Cond.fieldLink "LinearHistories$Space" 25 "LinearHistories$Space" "ways" "[J" ∈ TB := tb_t 83 (by decide +kernel) (by decide +kernel)
theorem w84 : Cond.fieldLink "LinearHistories$Space" 29 "LinearHistories$Space" "hopeful" "[Z" ∈ TB := tb_t 84 (by decide +kernel) (by decide +kernel)
theorem w85 : Cond.fieldLink "LinearHistories" 198 "LinearHistories$Space" "hopeful" "[Z" ∈ TB := tb_t 85 (by decide +kernel) (by decide +kernel)
theorem w86 : Cond.fieldLink "LinearHistories$Space" 44 "LinearHistories$Space" "hopeMarked" "Z" ∈ TB := tb_t 86 (by decide +kernel) (by decide +kernel)
theorem w87 : Cond.fieldLink "LinearHistories$Space" 33 "LinearHistories$Space" "count" "I" ∈ TB := tb_t 87 (by decide +kernel) (by decide +kernel)
theorem w88 : Cond.fieldLink "LinearHistories$Space" 37 "LinearHistories$Space" "returned" "I" ∈ TB := tb_t 88 (by decide +kernel) (by decide +kernel)
theorem w89 : Cond.fieldLink "LinearHistories$Space" 40 "LinearHistories$Space" "own" "Z" ∈ TB := tb_t 89 (by decide +kernel) (by decide +kernel)
theorem w107 : Cond.arrayClass Jvm.ClassFile.FieldType.boolean ∈ TB := tb_t 107 (by decide +kernel) (by decide +kernel)
theorem w108 : Cond.methodLink "LinearHistories" 45 yAr_fill ∈ TB := tb_t 108 (by decide +kernel) (by decide +kernel)
theorem w109 : Cond.static yAr_fill ∈ TB := tb_t 109 (by decide +kernel) (by decide +kernel)
theorem w110 : Cond.code yAr_fill prog_16_method_103_code 4 (Option.none : Option Jvm.ClassFile.FieldType) ∈ TB := tb_t 110 (by decide +kernel) (by decide +kernel)
theorem w111 : Cond.fieldLink "LinearHistories" 11 "LinearHistories" "subjects" "[LLinearHistories$Subject;" ∈ TB := tb_t 111 (by decide +kernel) (by decide +kernel)
theorem w112 : Cond.fieldLink "LinearHistories" 15 "LinearHistories" "owners" "[I" ∈ TB := tb_t 112 (by decide +kernel) (by decide +kernel)
theorem w113 : Cond.fieldLink "LinearHistories" 19 "LinearHistories" "places" "[I" ∈ TB := tb_t 113 (by decide +kernel) (by decide +kernel)
theorem w114 : Cond.fieldLink "LinearHistories" 22 "LinearHistories" "earlier" "[J" ∈ TB := tb_t 114 (by decide +kernel) (by decide +kernel)
theorem w115 : Cond.fieldLink "LinearHistories" 26 "LinearHistories" "waiting" "[I" ∈ TB := tb_t 115 (by decide +kernel) (by decide +kernel)
theorem w116 : Cond.fieldLink "LinearHistories" 32 "LinearHistories" "scratch" "LLinearHistories$Space;" ∈ TB := tb_t 116 (by decide +kernel) (by decide +kernel)
theorem w117 : Cond.fieldLink "LinearHistories" 36 "LinearHistories" "rowNumbers" "[I" ∈ TB := tb_t 117 (by decide +kernel) (by decide +kernel)
theorem w118 : Cond.fieldLink "LinearHistories" 39 "LinearHistories" "rowResults" "[I" ∈ TB := tb_t 118 (by decide +kernel) (by decide +kernel)
theorem w119 : Cond.fieldLink "LinearHistories" 42 "LinearHistories" "reached" "[I" ∈ TB := tb_t 119 (by decide +kernel) (by decide +kernel)
theorem w120 : Cond.fieldLink "LinearHistories" 154 "LinearHistories" "rowLength" "I" ∈ TB := tb_t 120 (by decide +kernel) (by decide +kernel)
theorem w121 : Cond.fieldLink "LinearHistories" 67 "LinearHistories" "rowBuilt" "Z" ∈ TB := tb_t 121 (by decide +kernel) (by decide +kernel)
theorem w122 : Cond.fieldLink "LinearHistories" 58 "LinearHistories" "objectCount" "I" ∈ TB := tb_t 122 (by decide +kernel) (by decide +kernel)
theorem w123 : Cond.fieldLink "LinearHistories" 89 "LinearHistories" "operationCount" "I" ∈ TB := tb_t 123 (by decide +kernel) (by decide +kernel)
theorem w124 : Cond.fieldLink "LinearHistories" 103 "LinearHistories" "eventCount" "I" ∈ TB := tb_t 124 (by decide +kernel) (by decide +kernel)
theorem w125 : Cond.fieldLink "LinearHistories" 95 "LinearHistories" "cameBack" "J" ∈ TB := tb_t 125 (by decide +kernel) (by decide +kernel)
theorem w157 : Cond.methodLink "LinearHistoriesLaw" 85 yLH_clear ∈ TB := tb_t 157 (by decide +kernel) (by decide +kernel)
theorem w158 : Cond.instanceMethod yLH_clear ∈ TB := tb_t 158 (by decide +kernel) (by decide +kernel)
theorem w159 : Cond.selects "LinearHistories" yLH_clear yLH_clear ∈ TB := tb_t 159 (by decide +kernel) (by decide +kernel)
theorem w160 : Cond.code yLH_clear prog_1_method_6_code 2 (Option.some Jvm.ClassFile.FieldType.int) ∈ TB := tb_t 160 (by decide +kernel) (by decide +kernel)
theorem w161 : Cond.methodLink "LinearHistoriesLaw" 89 yLH_events ∈ TB := tb_t 161 (by decide +kernel) (by decide +kernel)
theorem w162 : Cond.instanceMethod yLH_events ∈ TB := tb_t 162 (by decide +kernel) (by decide +kernel)
theorem w163 : Cond.selects "LinearHistories" yLH_events yLH_events ∈ TB := tb_t 163 (by decide +kernel) (by decide +kernel)
theorem w164 : Cond.code yLH_events prog_1_method_7_code 1 (Option.some Jvm.ClassFile.FieldType.int) ∈ TB := tb_t 164 (by decide +kernel) (by decide +kernel)
theorem w165 : Cond.methodLink "LinearHistoriesLaw" 111 yLH_linear ∈ TB := tb_t 165 (by decide +kernel) (by decide +kernel)
theorem w166 : Cond.instanceMethod yLH_linear ∈ TB := tb_t 166 (by decide +kernel) (by decide +kernel)
theorem w167 : Cond.selects "LinearHistories" yLH_linear yLH_linear ∈ TB := tb_t 167 (by decide +kernel) (by decide +kernel)
theorem w168 : Cond.code yLH_linear prog_1_method_14_code 4 (Option.some Jvm.ClassFile.FieldType.int) ∈ TB := tb_t 168 (by decide +kernel) (by decide +kernel)
theorem w169 : Cond.methodLink "LinearHistories" 74 yLH_subjectOf ∈ TB := tb_t 169 (by decide +kernel) (by decide +kernel)
theorem w171 : Cond.instanceMethod yLH_subjectOf ∈ TB := tb_t 171 (by decide +kernel) (by decide +kernel)
theorem w172 : Cond.code yLH_subjectOf prog_1_method_22_code 2 (Option.some (Jvm.ClassFile.FieldType.object "LinearHistories$Subject")) ∈ TB := tb_t 172 (by decide +kernel) (by decide +kernel)
theorem w194 : Cond.fieldLink "java/lang/Throwable" 198 "java/lang/Throwable" "backtrace" "Ljava/lang/Object;" ∈ TB := tb_t 194 (by decide +kernel) (by decide +kernel)
theorem w198 : Cond.methodLink "java/lang/Throwable" 1 ⟨"java/lang/Object", "<init>", "()V"⟩ ∈ TB := tb_t 198 (by decide +kernel) (by decide +kernel)
theorem w240 : Cond.arrayClass Jvm.ClassFile.FieldType.byte ∈ TB := tb_t 240 (by decide +kernel) (by decide +kernel)
theorem w241 : Cond.methodLink "LinearHistories" 142 ySu_learn ∈ TB := tb_t 241 (by decide +kernel) (by decide +kernel)
theorem w242 : Cond.instanceMethod ySu_learn ∈ TB := tb_t 242 (by decide +kernel) (by decide +kernel)
theorem w243 : Cond.selects "LinearHistories$Subject" ySu_learn ySu_learn ∈ TB := tb_t 243 (by decide +kernel) (by decide +kernel)
theorem w244 : Cond.code ySu_learn prog_5_method_10_code 2 (Option.none : Option Jvm.ClassFile.FieldType) ∈ TB := tb_t 244 (by decide +kernel) (by decide +kernel)
theorem w245 : Cond.methodLink "LinearHistories$Subject" 99 ySp_explore ∈ TB := tb_t 245 (by decide +kernel) (by decide +kernel)
theorem w246 : Cond.instanceMethod ySp_explore ∈ TB := tb_t 246 (by decide +kernel) (by decide +kernel)
theorem w247 : Cond.selects "LinearHistories$Space" ySp_explore ySp_explore ∈ TB := tb_t 247 (by decide +kernel) (by decide +kernel)
theorem w248 : Cond.code ySp_explore prog_3_method_2_code 9 (Option.some Jvm.ClassFile.FieldType.boolean) ∈ TB := tb_t 248 (by decide +kernel) (by decide +kernel)
theorem w249 : Cond.methodLink "LinearHistories$Space" 47 yTa_makeEmpty ∈ TB := tb_t 249 (by decide +kernel) (by decide +kernel)
theorem w250 : Cond.instanceMethod yTa_makeEmpty ∈ TB := tb_t 250 (by decide +kernel) (by decide +kernel)
theorem w251 : Cond.selects "LinearHistories$Table" yTa_makeEmpty yTa_makeEmpty ∈ TB := tb_t 251 (by decide +kernel) (by decide +kernel)
theorem w252 : Cond.code yTa_makeEmpty prog_6_method_2_code 1 (Option.none : Option Jvm.ClassFile.FieldType) ∈ TB := tb_t 252 (by decide +kernel) (by decide +kernel)
theorem w253 : Cond.methodLink "LinearHistories$Table" 29 yAr_fill ∈ TB := tb_t 253 (by decide +kernel) (by decide +kernel)
theorem w254 : Cond.methodLink "LinearHistories$Space" 50 yTa_keep ∈ TB := tb_t 254 (by decide +kernel) (by decide +kernel)
theorem w255 : Cond.instanceMethod yTa_keep ∈ TB := tb_t 255 (by decide +kernel) (by decide +kernel)
theorem w256 : Cond.selects "LinearHistories$Table" yTa_keep yTa_keep ∈ TB := tb_t 256 (by decide +kernel) (by decide +kernel)
theorem w257 : Cond.code yTa_keep prog_6_method_4_code 6 (Option.some Jvm.ClassFile.FieldType.int) ∈ TB := tb_t 257 (by decide +kernel) (by decide +kernel)
theorem w258 : Cond.methodLink "LinearHistories$Table" 35 yTa_chainOf ∈ TB := tb_t 258 (by decide +kernel) (by decide +kernel)
theorem w260 : Cond.instanceMethod yTa_chainOf ∈ TB := tb_t 260 (by decide +kernel) (by decide +kernel)
theorem w261 : Cond.code yTa_chainOf prog_6_method_5_code 4 (Option.some Jvm.ClassFile.FieldType.int) ∈ TB := tb_t 261 (by decide +kernel) (by decide +kernel)
theorem w262 : Cond.constantLong "LinearHistories$Table" 43 (-7046029254386353131 : Int64) ∈ TB := tb_t 262 (by decide +kernel) (by decide +kernel)
theorem w263 : Cond.constantLong "LinearHistories$Table" 45 (-4417276706812531889 : Int64) ∈ TB := tb_t 263 (by decide +kernel) (by decide +kernel)
theorem w264 : Cond.methodLink "LinearHistories$Table" 39 yTa_findIn ∈ TB := tb_t 264 (by decide +kernel) (by decide +kernel)
theorem w266 : Cond.instanceMethod yTa_findIn ∈ TB := tb_t 266 (by decide +kernel) (by decide +kernel)
theorem w267 : Cond.code yTa_findIn prog_6_method_6_code 7 (Option.some Jvm.ClassFile.FieldType.int) ∈ TB := tb_t 267 (by decide +kernel) (by decide +kernel)
theorem w268 : Cond.methodLink "LinearHistories$Space" 55 ySp_step ∈ TB := tb_t 268 (by decide +kernel) (by decide +kernel)
theorem w270 : Cond.instanceMethod ySp_step ∈ TB := tb_t 270 (by decide +kernel) (by decide +kernel)
theorem w271 : Cond.code ySp_step prog_3_method_3_code 8 (Option.some Jvm.ClassFile.FieldType.boolean) ∈ TB := tb_t 271 (by decide +kernel) (by decide +kernel)
theorem w272 : Cond.constant "LinearHistories$Space" 71 (65535 : Int32) ∈ TB := tb_t 272 (by decide +kernel) (by decide +kernel)
theorem w273 : Cond.methodLink "LinearHistories$Space" 89 ySt_become ∈ TB := tb_t 273 (by decide +kernel) (by decide +kernel)
theorem w274 : Cond.instanceMethod ySt_become ∈ TB := tb_t 274 (by decide +kernel) (by decide +kernel)
theorem w275 : Cond.selects "LinearHistories$State" ySt_become ySt_become ∈ TB := tb_t 275 (by decide +kernel) (by decide +kernel)
theorem w276 : Cond.code ySt_become prog_4_method_2_code 4 (Option.none : Option Jvm.ClassFile.FieldType) ∈ TB := tb_t 276 (by decide +kernel) (by decide +kernel)
theorem w277 : Cond.methodLink "LinearHistories$Space" 96 ySt_change ∈ TB := tb_t 277 (by decide +kernel) (by decide +kernel)
theorem w278 : Cond.instanceMethod ySt_change ∈ TB := tb_t 278 (by decide +kernel) (by decide +kernel)
theorem w279 : Cond.selects "LinearHistories$State" ySt_change ySt_change ∈ TB := tb_t 279 (by decide +kernel) (by decide +kernel)
theorem w280 : Cond.code ySt_change prog_4_method_3_code 4 (Option.none : Option Jvm.ClassFile.FieldType) ∈ TB := tb_t 280 (by decide +kernel) (by decide +kernel)
theorem w281 : Cond.methodLink "LinearHistories$State" 19 ySt_changeRegister ∈ TB := tb_t 281 (by decide +kernel) (by decide +kernel)
theorem w283 : Cond.instanceMethod ySt_changeRegister ∈ TB := tb_t 283 (by decide +kernel) (by decide +kernel)
theorem w284 : Cond.code ySt_changeRegister prog_4_method_4_code 3 (Option.some Jvm.ClassFile.FieldType.int) ∈ TB := tb_t 284 (by decide +kernel) (by decide +kernel)
theorem w285 : Cond.methodLink "LinearHistories$State" 26 ySt_changeSet ∈ TB := tb_t 285 (by decide +kernel) (by decide +kernel)
theorem w287 : Cond.instanceMethod ySt_changeSet ∈ TB := tb_t 287 (by decide +kernel) (by decide +kernel)
theorem w288 : Cond.code ySt_changeSet prog_4_method_9_code 5 (Option.some Jvm.ClassFile.FieldType.int) ∈ TB := tb_t 288 (by decide +kernel) (by decide +kernel)
theorem w289 : Cond.constantLong "LinearHistories$State" 64 (-1 : Int64) ∈ TB := tb_t 289 (by decide +kernel) (by decide +kernel)
theorem w290 : Cond.methodLink "LinearHistories$State" 29 ySt_changeMap ∈ TB := tb_t 290 (by decide +kernel) (by decide +kernel)
theorem w292 : Cond.instanceMethod ySt_changeMap ∈ TB := tb_t 292 (by decide +kernel) (by decide +kernel)
theorem w293 : Cond.code ySt_changeMap prog_4_method_10_code 5 (Option.some Jvm.ClassFile.FieldType.int) ∈ TB := tb_t 293 (by decide +kernel) (by decide +kernel)
theorem w294 : Cond.constantLong "LinearHistories$State" 66 (31 : Int64) ∈ TB := tb_t 294 (by decide +kernel) (by decide +kernel)
theorem w295 : Cond.constant "LinearHistories$State" 59 (-2147483648 : Int32) ∈ TB := tb_t 295 (by decide +kernel) (by decide +kernel)
theorem w296 : Cond.methodLink "LinearHistories$State" 33 ySt_changeSequence ∈ TB := tb_t 296 (by decide +kernel) (by decide +kernel)
theorem w298 : Cond.instanceMethod ySt_changeSequence ∈ TB := tb_t 298 (by decide +kernel) (by decide +kernel)
theorem w299 : Cond.code ySt_changeSequence prog_4_method_5_code 4 (Option.some Jvm.ClassFile.FieldType.int) ∈ TB := tb_t 299 (by decide +kernel) (by decide +kernel)
theorem w300 : Cond.methodLink "LinearHistories$State" 48 ySt_placeInHeap ∈ TB := tb_t 300 (by decide +kernel) (by decide +kernel)
theorem w302 : Cond.instanceMethod ySt_placeInHeap ∈ TB := tb_t 302 (by decide +kernel) (by decide +kernel)
theorem w303 : Cond.code ySt_placeInHeap prog_4_method_6_code 6 (Option.some Jvm.ClassFile.FieldType.int) ∈ TB := tb_t 303 (by decide +kernel) (by decide +kernel)
theorem w304 : Cond.methodLink "LinearHistories$State" 55 ySt_insertAt ∈ TB := tb_t 304 (by decide +kernel) (by decide +kernel)
theorem w306 : Cond.instanceMethod ySt_insertAt ∈ TB := tb_t 306 (by decide +kernel) (by decide +kernel)
theorem w307 : Cond.code ySt_insertAt prog_4_method_7_code 8 (Option.none : Option Jvm.ClassFile.FieldType) ∈ TB := tb_t 307 (by decide +kernel) (by decide +kernel)
theorem w308 : Cond.methodLink "LinearHistories$State" 60 ySt_removeAt ∈ TB := tb_t 308 (by decide +kernel) (by decide +kernel)
theorem w310 : Cond.instanceMethod ySt_removeAt ∈ TB := tb_t 310 (by decide +kernel) (by decide +kernel)
theorem w311 : Cond.code ySt_removeAt prog_4_method_8_code 8 (Option.some Jvm.ClassFile.FieldType.int) ∈ TB := tb_t 311 (by decide +kernel) (by decide +kernel)
theorem w312 : Cond.methodLink "LinearHistories$Space" 59 ySp_keyBehind ∈ TB := tb_t 312 (by decide +kernel) (by decide +kernel)
theorem w314 : Cond.instanceMethod ySp_keyBehind ∈ TB := tb_t 314 (by decide +kernel) (by decide +kernel)
theorem w315 : Cond.code ySp_keyBehind prog_3_method_4_code 3 (Option.some Jvm.ClassFile.FieldType.int) ∈ TB := tb_t 315 (by decide +kernel) (by decide +kernel)
theorem w316 : Cond.methodLink "LinearHistories$Subject" 113 ySp_waysToEnds ∈ TB := tb_t 316 (by decide +kernel) (by decide +kernel)
theorem w317 : Cond.instanceMethod ySp_waysToEnds ∈ TB := tb_t 317 (by decide +kernel) (by decide +kernel)
theorem w318 : Cond.selects "LinearHistories$Space" ySp_waysToEnds ySp_waysToEnds ∈ TB := tb_t 318 (by decide +kernel) (by decide +kernel)
theorem w319 : Cond.code ySp_waysToEnds prog_3_method_7_code 4 (Option.some Jvm.ClassFile.FieldType.long) ∈ TB := tb_t 319 (by decide +kernel) (by decide +kernel)
theorem w320 : Cond.methodLink "LinearHistories$Space" 110 ySp_isEnd ∈ TB := tb_t 320 (by decide +kernel) (by decide +kernel)
theorem w321 : Cond.instanceMethod ySp_isEnd ∈ TB := tb_t 321 (by decide +kernel) (by decide +kernel)
theorem w322 : Cond.selects "LinearHistories$Space" ySp_isEnd ySp_isEnd ∈ TB := tb_t 322 (by decide +kernel) (by decide +kernel)
theorem w323 : Cond.code ySp_isEnd prog_3_method_6_code 2 (Option.some Jvm.ClassFile.FieldType.boolean) ∈ TB := tb_t 323 (by decide +kernel) (by decide +kernel)
theorem w324 : Cond.methodLink "LinearHistories$Subject" 121 ySp_statesAtEnds ∈ TB := tb_t 324 (by decide +kernel) (by decide +kernel)
theorem w325 : Cond.instanceMethod ySp_statesAtEnds ∈ TB := tb_t 325 (by decide +kernel) (by decide +kernel)
theorem w326 : Cond.selects "LinearHistories$Space" ySp_statesAtEnds ySp_statesAtEnds ∈ TB := tb_t 326 (by decide +kernel) (by decide +kernel)
theorem w327 : Cond.code ySp_statesAtEnds prog_3_method_8_code 3 (Option.some Jvm.ClassFile.FieldType.int) ∈ TB := tb_t 327 (by decide +kernel) (by decide +kernel)
theorem w328 : Cond.constantLong "LinearHistories$Subject" 131 (-2 : Int64) ∈ TB := tb_t 328 (by decide +kernel) (by decide +kernel)
theorem w329 : Cond.methodLink "LinearHistoriesLaw" 64 yLa_object ∈ TB := tb_t 329 (by decide +kernel) (by decide +kernel)
theorem w330 : Cond.static yLa_object ∈ TB := tb_t 330 (by decide +kernel) (by decide +kernel)
theorem w331 : Cond.codeWith yLa_object method_3_code 4 (Option.some Jvm.ClassFile.FieldType.int) [(0, 9, 12, 13)] ∈ TB := tb_t 331 (by decide +kernel) (by decide +kernel)
theorem w333 : Cond.methodLink "LinearHistoriesLaw" 7 yLH_object ∈ TB := tb_t 333 (by decide +kernel) (by decide +kernel)
theorem w334 : Cond.instanceMethod yLH_object ∈ TB := tb_t 334 (by decide +kernel) (by decide +kernel)
theorem w335 : Cond.selects "LinearHistories" yLH_object yLH_object ∈ TB := tb_t 335 (by decide +kernel) (by decide +kernel)
theorem w336 : Cond.code yLH_object prog_1_method_2_code 3 (Option.some Jvm.ClassFile.FieldType.int) ∈ TB := tb_t 336 (by decide +kernel) (by decide +kernel)
theorem w338 : Cond.instantiable "LinearHistories$Subject" 18 ∈ TB := tb_t 338 (by decide +kernel) (by decide +kernel)
theorem w339 : Cond.methodLink "LinearHistories" 62 ySu_init ∈ TB := tb_t 339 (by decide +kernel) (by decide +kernel)
theorem w340 : Cond.instanceMethod ySu_init ∈ TB := tb_t 340 (by decide +kernel) (by decide +kernel)
theorem w341 : Cond.code ySu_init prog_5_method_1_code 2 (Option.none : Option Jvm.ClassFile.FieldType) ∈ TB := tb_t 341 (by decide +kernel) (by decide +kernel)
theorem w342 : Cond.methodLink "LinearHistories$Subject" 3 ⟨"java/lang/Object", "<init>", "()V"⟩ ∈ TB := tb_t 342 (by decide +kernel) (by decide +kernel)
theorem w343 : Cond.classLink "LinearHistories$Subject" 9 "LinearHistories$Operation" ∈ TB := tb_t 343 (by decide +kernel) (by decide +kernel)
theorem w345 : Cond.classLink "LinearHistories$Subject" 17 "LinearHistories$Space" ∈ TB := tb_t 345 (by decide +kernel) (by decide +kernel)
theorem w347 : Cond.instantiable "LinearHistories$Operation" 8 ∈ TB := tb_t 347 (by decide +kernel) (by decide +kernel)
theorem w349 : Cond.instanceMethod yOp_init ∈ TB := tb_t 349 (by decide +kernel) (by decide +kernel)
theorem w350 : Cond.code yOp_init prog_2_method_1_code 1 (Option.none : Option Jvm.ClassFile.FieldType) ∈ TB := tb_t 350 (by decide +kernel) (by decide +kernel)
theorem w351 : Cond.methodLink "LinearHistories$Operation" 1 ⟨"java/lang/Object", "<init>", "()V"⟩ ∈ TB := tb_t 351 (by decide +kernel) (by decide +kernel)
theorem w352 : Cond.fieldLink "LinearHistories$Subject" 64 "LinearHistories$Operation" "process" "I" ∈ TB := tb_t 352 (by decide +kernel) (by decide +kernel)
theorem w353 : Cond.fieldLink "LinearHistories$State" 37 "LinearHistories$Operation" "code" "I" ∈ TB := tb_t 353 (by decide +kernel) (by decide +kernel)
theorem w354 : Cond.fieldLink "LinearHistories$Subject" 67 "LinearHistories$Operation" "code" "I" ∈ TB := tb_t 354 (by decide +kernel) (by decide +kernel)
theorem w355 : Cond.fieldLink "LinearHistories$State" 42 "LinearHistories$Operation" "a" "I" ∈ TB := tb_t 355 (by decide +kernel) (by decide +kernel)
theorem w356 : Cond.fieldLink "LinearHistories$Subject" 70 "LinearHistories$Operation" "a" "I" ∈ TB := tb_t 356 (by decide +kernel) (by decide +kernel)
theorem w357 : Cond.fieldLink "LinearHistories$State" 45 "LinearHistories$Operation" "b" "I" ∈ TB := tb_t 357 (by decide +kernel) (by decide +kernel)
theorem w358 : Cond.fieldLink "LinearHistories$Subject" 73 "LinearHistories$Operation" "b" "I" ∈ TB := tb_t 358 (by decide +kernel) (by decide +kernel)
theorem w359 : Cond.fieldLink "LinearHistories$State" 52 "LinearHistories$Operation" "name" "I" ∈ TB := tb_t 359 (by decide +kernel) (by decide +kernel)
theorem w360 : Cond.fieldLink "LinearHistories$Subject" 96 "LinearHistories$Operation" "name" "I" ∈ TB := tb_t 360 (by decide +kernel) (by decide +kernel)
theorem w361 : Cond.fieldLink "LinearHistories$Space" 103 "LinearHistories$Operation" "result" "I" ∈ TB := tb_t 361 (by decide +kernel) (by decide +kernel)
theorem w362 : Cond.fieldLink "LinearHistories$Subject" 76 "LinearHistories$Operation" "result" "I" ∈ TB := tb_t 362 (by decide +kernel) (by decide +kernel)
theorem w363 : Cond.fieldLink "LinearHistories$Space" 83 "LinearHistories$Operation" "earlier" "I" ∈ TB := tb_t 363 (by decide +kernel) (by decide +kernel)
theorem w364 : Cond.fieldLink "LinearHistories$Subject" 79 "LinearHistories$Operation" "earlier" "I" ∈ TB := tb_t 364 (by decide +kernel) (by decide +kernel)
theorem w365 : Cond.fieldLink "LinearHistories$Space" 78 "LinearHistories$Operation" "ownEarlier" "I" ∈ TB := tb_t 365 (by decide +kernel) (by decide +kernel)
theorem w366 : Cond.fieldLink "LinearHistories$Subject" 86 "LinearHistories$Operation" "ownEarlier" "I" ∈ TB := tb_t 366 (by decide +kernel) (by decide +kernel)
theorem w384 : Cond.fieldLink "LinearHistories$Subject" 11 "LinearHistories$Subject" "operations" "[LLinearHistories$Operation;" ∈ TB := tb_t 384 (by decide +kernel) (by decide +kernel)
theorem w385 : Cond.fieldLink "LinearHistories$Space" 72 "LinearHistories$Subject" "operations" "[LLinearHistories$Operation;" ∈ TB := tb_t 385 (by decide +kernel) (by decide +kernel)
theorem w386 : Cond.fieldLink "LinearHistories$Subject" 20 "LinearHistories$Subject" "space" "LLinearHistories$Space;" ∈ TB := tb_t 386 (by decide +kernel) (by decide +kernel)
theorem w387 : Cond.fieldLink "LinearHistories" 173 "LinearHistories$Subject" "space" "LLinearHistories$Space;" ∈ TB := tb_t 387 (by decide +kernel) (by decide +kernel)
end
section
theorem w388 : Cond.fieldLink "LinearHistories$Subject" 24 "LinearHistories$Subject" "backEvents" "[I" ∈ TB := tb_t 388 (by decide +kernel) (by decide +kernel)
theorem w389 : Cond.fieldLink "LinearHistories$Subject" 28 "LinearHistories$Subject" "backCounts" "[I" ∈ TB := tb_t 389 (by decide +kernel) (by decide +kernel)
theorem w390 : Cond.fieldLink "LinearHistories$Subject" 31 "LinearHistories$Subject" "backSets" "[I" ∈ TB := tb_t 390 (by decide +kernel) (by decide +kernel)
theorem w391 : Cond.fieldLink "LinearHistories$Subject" 35 "LinearHistories$Subject" "kind" "I" ∈ TB := tb_t 391 (by decide +kernel) (by decide +kernel)
theorem w392 : Cond.fieldLink "LinearHistories$Space" 93 "LinearHistories$Subject" "kind" "I" ∈ TB := tb_t 392 (by decide +kernel) (by decide +kernel)
theorem w393 : Cond.fieldLink "LinearHistories$Subject" 39 "LinearHistories$Subject" "count" "I" ∈ TB := tb_t 393 (by decide +kernel) (by decide +kernel)
theorem w394 : Cond.fieldLink "LinearHistories" 92 "LinearHistories$Subject" "count" "I" ∈ TB := tb_t 394 (by decide +kernel) (by decide +kernel)
theorem w395 : Cond.fieldLink "LinearHistories$Subject" 42 "LinearHistories$Subject" "backs" "I" ∈ TB := tb_t 395 (by decide +kernel) (by decide +kernel)
theorem w396 : Cond.fieldLink "LinearHistories$Subject" 45 "LinearHistories$Subject" "returned" "I" ∈ TB := tb_t 396 (by decide +kernel) (by decide +kernel)
theorem w397 : Cond.fieldLink "LinearHistories$Subject" 57 "LinearHistories$Subject" "learned" "Z" ∈ TB := tb_t 397 (by decide +kernel) (by decide +kernel)
theorem w398 : Cond.fieldLink "LinearHistories" 117 "LinearHistories$Subject" "possibilityCount" "I" ∈ TB := tb_t 398 (by decide +kernel) (by decide +kernel)
theorem w399 : Cond.fieldLink "LinearHistories$Subject" 110 "LinearHistories$Subject" "possibilityCount" "I" ∈ TB := tb_t 399 (by decide +kernel) (by decide +kernel)
theorem w400 : Cond.fieldLink "LinearHistories" 120 "LinearHistories$Subject" "judgement" "I" ∈ TB := tb_t 400 (by decide +kernel) (by decide +kernel)
theorem w401 : Cond.fieldLink "LinearHistories$Subject" 128 "LinearHistories$Subject" "judgement" "I" ∈ TB := tb_t 401 (by decide +kernel) (by decide +kernel)
theorem w402 : Cond.fieldLink "LinearHistories$Subject" 117 "LinearHistories$Subject" "wayCount" "J" ∈ TB := tb_t 402 (by decide +kernel) (by decide +kernel)
theorem w403 : Cond.fieldLink "LinearHistories" 130 "LinearHistories$Subject" "wayCount" "J" ∈ TB := tb_t 403 (by decide +kernel) (by decide +kernel)
theorem w404 : Cond.fieldLink "LinearHistories$Subject" 125 "LinearHistories$Subject" "lastCount" "I" ∈ TB := tb_t 404 (by decide +kernel) (by decide +kernel)
theorem w405 : Cond.fieldLink "LinearHistories" 133 "LinearHistories$Subject" "lastCount" "I" ∈ TB := tb_t 405 (by decide +kernel) (by decide +kernel)
theorem w406 : Cond.fieldLink "LinearHistories$Subject" 61 "LinearHistories$Subject" "ownLearned" "Z" ∈ TB := tb_t 406 (by decide +kernel) (by decide +kernel)
theorem w407 : Cond.fieldLink "LinearHistories" 127 "LinearHistories$Subject" "ownJudgement" "I" ∈ TB := tb_t 407 (by decide +kernel) (by decide +kernel)
theorem w408 : Cond.fieldLink "LinearHistories$Subject" 133 "LinearHistories$Subject" "ownJudgement" "I" ∈ TB := tb_t 408 (by decide +kernel) (by decide +kernel)
theorem w409 : Cond.fieldLink "LinearHistories$Subject" 48 "LinearHistories$Subject" "backsLearned" "I" ∈ TB := tb_t 409 (by decide +kernel) (by decide +kernel)
theorem w410 : Cond.fieldLink "LinearHistories$Subject" 51 "LinearHistories$Subject" "brokenAt" "I" ∈ TB := tb_t 410 (by decide +kernel) (by decide +kernel)
theorem w411 : Cond.fieldLink "LinearHistories" 139 "LinearHistories$Subject" "brokenAt" "I" ∈ TB := tb_t 411 (by decide +kernel) (by decide +kernel)
theorem w449 : Cond.methodLink "LinearHistories" 63 ySu_begin ∈ TB := tb_t 449 (by decide +kernel) (by decide +kernel)
theorem w450 : Cond.instanceMethod ySu_begin ∈ TB := tb_t 450 (by decide +kernel) (by decide +kernel)
theorem w451 : Cond.selects "LinearHistories$Subject" ySu_begin ySu_begin ∈ TB := tb_t 451 (by decide +kernel) (by decide +kernel)
theorem w452 : Cond.code ySu_begin prog_5_method_2_code 2 (Option.none : Option Jvm.ClassFile.FieldType) ∈ TB := tb_t 452 (by decide +kernel) (by decide +kernel)
theorem w453 : Cond.methodLink "LinearHistories$Subject" 54 ySu_forget ∈ TB := tb_t 453 (by decide +kernel) (by decide +kernel)
theorem w454 : Cond.instanceMethod ySu_forget ∈ TB := tb_t 454 (by decide +kernel) (by decide +kernel)
theorem w455 : Cond.selects "LinearHistories$Subject" ySu_forget ySu_forget ∈ TB := tb_t 455 (by decide +kernel) (by decide +kernel)
theorem w456 : Cond.code ySu_forget prog_5_method_3_code 1 (Option.none : Option Jvm.ClassFile.FieldType) ∈ TB := tb_t 456 (by decide +kernel) (by decide +kernel)
theorem w457 : Cond.methodLink "LinearHistoriesLaw" 73 yLa_call ∈ TB := tb_t 457 (by decide +kernel) (by decide +kernel)
theorem w458 : Cond.static yLa_call ∈ TB := tb_t 458 (by decide +kernel) (by decide +kernel)
theorem w459 : Cond.codeWith yLa_call method_4_code 8 (Option.some Jvm.ClassFile.FieldType.int) [(0, 16, 19, 13), (0, 16, 23, 19)] ∈ TB := tb_t 459 (by decide +kernel) (by decide +kernel)
theorem w461 : Cond.methodLink "LinearHistoriesLaw" 15 yLH_call ∈ TB := tb_t 461 (by decide +kernel) (by decide +kernel)
theorem w462 : Cond.instanceMethod yLH_call ∈ TB := tb_t 462 (by decide +kernel) (by decide +kernel)
theorem w463 : Cond.selects "LinearHistories" yLH_call yLH_call ∈ TB := tb_t 463 (by decide +kernel) (by decide +kernel)
theorem w464 : Cond.code yLH_call prog_1_method_3_code 8 (Option.some Jvm.ClassFile.FieldType.int) ∈ TB := tb_t 464 (by decide +kernel) (by decide +kernel)
theorem w465 : Cond.methodLink "LinearHistories" 71 yLH_checkProcess ∈ TB := tb_t 465 (by decide +kernel) (by decide +kernel)
theorem w467 : Cond.instanceMethod yLH_checkProcess ∈ TB := tb_t 467 (by decide +kernel) (by decide +kernel)
theorem w468 : Cond.code yLH_checkProcess prog_1_method_20_code 2 (Option.none : Option Jvm.ClassFile.FieldType) ∈ TB := tb_t 468 (by decide +kernel) (by decide +kernel)
theorem w470 : Cond.methodLink "LinearHistories" 78 ySu_operationsOfKind ∈ TB := tb_t 470 (by decide +kernel) (by decide +kernel)
theorem w471 : Cond.instanceMethod ySu_operationsOfKind ∈ TB := tb_t 471 (by decide +kernel) (by decide +kernel)
theorem w472 : Cond.selects "LinearHistories$Subject" ySu_operationsOfKind ySu_operationsOfKind ∈ TB := tb_t 472 (by decide +kernel) (by decide +kernel)
theorem w473 : Cond.code ySu_operationsOfKind prog_5_method_4_code 1 (Option.some Jvm.ClassFile.FieldType.int) ∈ TB := tb_t 473 (by decide +kernel) (by decide +kernel)
theorem w491 : Cond.methodLink "LinearHistories" 99 ySu_addOperation ∈ TB := tb_t 491 (by decide +kernel) (by decide +kernel)
theorem w492 : Cond.instanceMethod ySu_addOperation ∈ TB := tb_t 492 (by decide +kernel) (by decide +kernel)
theorem w493 : Cond.selects "LinearHistories$Subject" ySu_addOperation ySu_addOperation ∈ TB := tb_t 493 (by decide +kernel) (by decide +kernel)
theorem w494 : Cond.code ySu_addOperation prog_5_method_5_code 6 (Option.none : Option Jvm.ClassFile.FieldType) ∈ TB := tb_t 494 (by decide +kernel) (by decide +kernel)
theorem w495 : Cond.methodLink "LinearHistories$Subject" 82 ySu_placesOf ∈ TB := tb_t 495 (by decide +kernel) (by decide +kernel)
theorem w496 : Cond.instanceMethod ySu_placesOf ∈ TB := tb_t 496 (by decide +kernel) (by decide +kernel)
theorem w497 : Cond.selects "LinearHistories$Subject" ySu_placesOf ySu_placesOf ∈ TB := tb_t 497 (by decide +kernel) (by decide +kernel)
theorem w498 : Cond.code ySu_placesOf prog_5_method_6_code 4 (Option.some Jvm.ClassFile.FieldType.int) ∈ TB := tb_t 498 (by decide +kernel) (by decide +kernel)
theorem w499 : Cond.methodLink "LinearHistories$Subject" 89 ySu_numberOf ∈ TB := tb_t 499 (by decide +kernel) (by decide +kernel)
theorem w500 : Cond.instanceMethod ySu_numberOf ∈ TB := tb_t 500 (by decide +kernel) (by decide +kernel)
theorem w501 : Cond.selects "LinearHistories$Subject" ySu_numberOf ySu_numberOf ∈ TB := tb_t 501 (by decide +kernel) (by decide +kernel)
theorem w502 : Cond.code ySu_numberOf prog_5_method_8_code 2 (Option.some Jvm.ClassFile.FieldType.int) ∈ TB := tb_t 502 (by decide +kernel) (by decide +kernel)
theorem w503 : Cond.methodLink "LinearHistories$Subject" 93 ySu_nameOf ∈ TB := tb_t 503 (by decide +kernel) (by decide +kernel)
theorem w504 : Cond.instanceMethod ySu_nameOf ∈ TB := tb_t 504 (by decide +kernel) (by decide +kernel)
theorem w505 : Cond.selects "LinearHistories$Subject" ySu_nameOf ySu_nameOf ∈ TB := tb_t 505 (by decide +kernel) (by decide +kernel)
theorem w506 : Cond.code ySu_nameOf prog_5_method_7_code 3 (Option.some Jvm.ClassFile.FieldType.int) ∈ TB := tb_t 506 (by decide +kernel) (by decide +kernel)
theorem w507 : Cond.methodLink "LinearHistoriesLaw" 77 yLa_back ∈ TB := tb_t 507 (by decide +kernel) (by decide +kernel)
theorem w508 : Cond.static yLa_back ∈ TB := tb_t 508 (by decide +kernel) (by decide +kernel)
theorem w509 : Cond.codeWith yLa_back method_5_code 4 (Option.some Jvm.ClassFile.FieldType.int) [(0, 6, 9, 13), (0, 6, 12, 19)] ∈ TB := tb_t 509 (by decide +kernel) (by decide +kernel)
theorem w510 : Cond.methodLink "LinearHistoriesLaw" 21 yLH_back ∈ TB := tb_t 510 (by decide +kernel) (by decide +kernel)
theorem w511 : Cond.instanceMethod yLH_back ∈ TB := tb_t 511 (by decide +kernel) (by decide +kernel)
theorem w512 : Cond.selects "LinearHistories" yLH_back yLH_back ∈ TB := tb_t 512 (by decide +kernel) (by decide +kernel)
theorem w513 : Cond.code yLH_back prog_1_method_4_code 4 (Option.none : Option Jvm.ClassFile.FieldType) ∈ TB := tb_t 513 (by decide +kernel) (by decide +kernel)
theorem w514 : Cond.methodLink "LinearHistories" 106 yLH_operationOf ∈ TB := tb_t 514 (by decide +kernel) (by decide +kernel)
theorem w516 : Cond.instanceMethod yLH_operationOf ∈ TB := tb_t 516 (by decide +kernel) (by decide +kernel)
theorem w517 : Cond.code yLH_operationOf prog_1_method_21_code 2 (Option.some Jvm.ClassFile.FieldType.int) ∈ TB := tb_t 517 (by decide +kernel) (by decide +kernel)
theorem w519 : Cond.methodLink "LinearHistories" 110 ySu_endOperation ∈ TB := tb_t 519 (by decide +kernel) (by decide +kernel)
theorem w520 : Cond.instanceMethod ySu_endOperation ∈ TB := tb_t 520 (by decide +kernel) (by decide +kernel)
theorem w521 : Cond.selects "LinearHistories$Subject" ySu_endOperation ySu_endOperation ∈ TB := tb_t 521 (by decide +kernel) (by decide +kernel)
theorem w522 : Cond.code ySu_endOperation prog_5_method_9_code 4 (Option.none : Option Jvm.ClassFile.FieldType) ∈ TB := tb_t 522 (by decide +kernel) (by decide +kernel)
theorem w523 : Cond.methodLink "LinearHistoriesLaw" 81 yLa_lose ∈ TB := tb_t 523 (by decide +kernel) (by decide +kernel)
theorem w524 : Cond.static yLa_lose ∈ TB := tb_t 524 (by decide +kernel) (by decide +kernel)
theorem w525 : Cond.codeWith yLa_lose method_6_code 3 (Option.some Jvm.ClassFile.FieldType.int) [(0, 5, 8, 13), (0, 5, 11, 19)] ∈ TB := tb_t 525 (by decide +kernel) (by decide +kernel)
theorem w526 : Cond.methodLink "LinearHistoriesLaw" 25 yLH_lose ∈ TB := tb_t 526 (by decide +kernel) (by decide +kernel)
theorem w527 : Cond.instanceMethod yLH_lose ∈ TB := tb_t 527 (by decide +kernel) (by decide +kernel)
theorem w528 : Cond.selects "LinearHistories" yLH_lose yLH_lose ∈ TB := tb_t 528 (by decide +kernel) (by decide +kernel)
theorem w529 : Cond.code yLH_lose prog_1_method_5_code 2 (Option.none : Option Jvm.ClassFile.FieldType) ∈ TB := tb_t 529 (by decide +kernel) (by decide +kernel)
theorem w530 : Cond.methodLink "LinearHistoriesLaw" 93 yLa_possibilities ∈ TB := tb_t 530 (by decide +kernel) (by decide +kernel)
theorem w531 : Cond.static yLa_possibilities ∈ TB := tb_t 531 (by decide +kernel) (by decide +kernel)
theorem w532 : Cond.codeWith yLa_possibilities method_7_code 4 (Option.some Jvm.ClassFile.FieldType.int) [(0, 9, 12, 13)] ∈ TB := tb_t 532 (by decide +kernel) (by decide +kernel)
theorem w533 : Cond.methodLink "LinearHistoriesLaw" 29 yLH_possibilities ∈ TB := tb_t 533 (by decide +kernel) (by decide +kernel)
theorem w534 : Cond.instanceMethod yLH_possibilities ∈ TB := tb_t 534 (by decide +kernel) (by decide +kernel)
theorem w535 : Cond.selects "LinearHistories" yLH_possibilities yLH_possibilities ∈ TB := tb_t 535 (by decide +kernel) (by decide +kernel)
theorem w536 : Cond.code yLH_possibilities prog_1_method_8_code 2 (Option.some Jvm.ClassFile.FieldType.int) ∈ TB := tb_t 536 (by decide +kernel) (by decide +kernel)
theorem w537 : Cond.methodLink "LinearHistories" 114 yLH_learnedSubject ∈ TB := tb_t 537 (by decide +kernel) (by decide +kernel)
theorem w539 : Cond.instanceMethod yLH_learnedSubject ∈ TB := tb_t 539 (by decide +kernel) (by decide +kernel)
theorem w540 : Cond.code yLH_learnedSubject prog_1_method_23_code 3 (Option.some (Jvm.ClassFile.FieldType.object "LinearHistories$Subject")) ∈ TB := tb_t 540 (by decide +kernel) (by decide +kernel)
theorem w541 : Cond.methodLink "LinearHistoriesLaw" 96 yLa_judge ∈ TB := tb_t 541 (by decide +kernel) (by decide +kernel)
theorem w542 : Cond.static yLa_judge ∈ TB := tb_t 542 (by decide +kernel) (by decide +kernel)
theorem w543 : Cond.codeWith yLa_judge method_8_code 4 (Option.some Jvm.ClassFile.FieldType.int) [(0, 9, 12, 13)] ∈ TB := tb_t 543 (by decide +kernel) (by decide +kernel)
theorem w544 : Cond.methodLink "LinearHistoriesLaw" 32 yLH_judge ∈ TB := tb_t 544 (by decide +kernel) (by decide +kernel)
theorem w545 : Cond.instanceMethod yLH_judge ∈ TB := tb_t 545 (by decide +kernel) (by decide +kernel)
theorem w546 : Cond.selects "LinearHistories" yLH_judge yLH_judge ∈ TB := tb_t 546 (by decide +kernel) (by decide +kernel)
theorem w547 : Cond.code yLH_judge prog_1_method_9_code 2 (Option.some Jvm.ClassFile.FieldType.int) ∈ TB := tb_t 547 (by decide +kernel) (by decide +kernel)
theorem w548 : Cond.methodLink "LinearHistoriesLaw" 99 yLa_judgeOwn ∈ TB := tb_t 548 (by decide +kernel) (by decide +kernel)
theorem w549 : Cond.static yLa_judgeOwn ∈ TB := tb_t 549 (by decide +kernel) (by decide +kernel)
theorem w550 : Cond.codeWith yLa_judgeOwn method_9_code 4 (Option.some Jvm.ClassFile.FieldType.int) [(0, 9, 12, 13)] ∈ TB := tb_t 550 (by decide +kernel) (by decide +kernel)
theorem w551 : Cond.methodLink "LinearHistoriesLaw" 35 yLH_judgeOwn ∈ TB := tb_t 551 (by decide +kernel) (by decide +kernel)
theorem w552 : Cond.instanceMethod yLH_judgeOwn ∈ TB := tb_t 552 (by decide +kernel) (by decide +kernel)
theorem w553 : Cond.selects "LinearHistories" yLH_judgeOwn yLH_judgeOwn ∈ TB := tb_t 553 (by decide +kernel) (by decide +kernel)
theorem w554 : Cond.code yLH_judgeOwn prog_1_method_10_code 3 (Option.some Jvm.ClassFile.FieldType.int) ∈ TB := tb_t 554 (by decide +kernel) (by decide +kernel)
theorem w555 : Cond.methodLink "LinearHistories" 123 ySu_learnOwn ∈ TB := tb_t 555 (by decide +kernel) (by decide +kernel)
theorem w556 : Cond.instanceMethod ySu_learnOwn ∈ TB := tb_t 556 (by decide +kernel) (by decide +kernel)
theorem w557 : Cond.selects "LinearHistories$Subject" ySu_learnOwn ySu_learnOwn ∈ TB := tb_t 557 (by decide +kernel) (by decide +kernel)
theorem w558 : Cond.code ySu_learnOwn prog_5_method_11_code 2 (Option.none : Option Jvm.ClassFile.FieldType) ∈ TB := tb_t 558 (by decide +kernel) (by decide +kernel)
theorem w559 : Cond.methodLink "LinearHistoriesLaw" 102 yLa_ways ∈ TB := tb_t 559 (by decide +kernel) (by decide +kernel)
theorem w560 : Cond.static yLa_ways ∈ TB := tb_t 560 (by decide +kernel) (by decide +kernel)
theorem w561 : Cond.codeWith yLa_ways method_10_code 4 (Option.some Jvm.ClassFile.FieldType.int) [(0, 8, 11, 13)] ∈ TB := tb_t 561 (by decide +kernel) (by decide +kernel)
theorem w562 : Cond.methodLink "LinearHistoriesLaw" 38 yLH_ways ∈ TB := tb_t 562 (by decide +kernel) (by decide +kernel)
theorem w563 : Cond.instanceMethod yLH_ways ∈ TB := tb_t 563 (by decide +kernel) (by decide +kernel)
theorem w564 : Cond.selects "LinearHistories" yLH_ways yLH_ways ∈ TB := tb_t 564 (by decide +kernel) (by decide +kernel)
theorem w565 : Cond.code yLH_ways prog_1_method_11_code 2 (Option.some Jvm.ClassFile.FieldType.long) ∈ TB := tb_t 565 (by decide +kernel) (by decide +kernel)
theorem w566 : Cond.methodLink "LinearHistoriesLaw" 105 yLa_lasts ∈ TB := tb_t 566 (by decide +kernel) (by decide +kernel)
theorem w567 : Cond.static yLa_lasts ∈ TB := tb_t 567 (by decide +kernel) (by decide +kernel)
theorem w568 : Cond.codeWith yLa_lasts method_11_code 4 (Option.some Jvm.ClassFile.FieldType.int) [(0, 9, 12, 13)] ∈ TB := tb_t 568 (by decide +kernel) (by decide +kernel)
theorem w569 : Cond.methodLink "LinearHistoriesLaw" 42 yLH_lasts ∈ TB := tb_t 569 (by decide +kernel) (by decide +kernel)
theorem w570 : Cond.instanceMethod yLH_lasts ∈ TB := tb_t 570 (by decide +kernel) (by decide +kernel)
theorem w571 : Cond.selects "LinearHistories" yLH_lasts yLH_lasts ∈ TB := tb_t 571 (by decide +kernel) (by decide +kernel)
theorem w572 : Cond.code yLH_lasts prog_1_method_12_code 2 (Option.some Jvm.ClassFile.FieldType.int) ∈ TB := tb_t 572 (by decide +kernel) (by decide +kernel)
theorem w573 : Cond.methodLink "LinearHistoriesLaw" 108 yLa_broken ∈ TB := tb_t 573 (by decide +kernel) (by decide +kernel)
theorem w574 : Cond.static yLa_broken ∈ TB := tb_t 574 (by decide +kernel) (by decide +kernel)
theorem w575 : Cond.codeWith yLa_broken method_12_code 4 (Option.some Jvm.ClassFile.FieldType.int) [(0, 9, 12, 13)] ∈ TB := tb_t 575 (by decide +kernel) (by decide +kernel)
theorem w576 : Cond.methodLink "LinearHistoriesLaw" 45 yLH_broken ∈ TB := tb_t 576 (by decide +kernel) (by decide +kernel)
theorem w577 : Cond.instanceMethod yLH_broken ∈ TB := tb_t 577 (by decide +kernel) (by decide +kernel)
theorem w578 : Cond.selects "LinearHistories" yLH_broken yLH_broken ∈ TB := tb_t 578 (by decide +kernel) (by decide +kernel)
theorem w579 : Cond.code yLH_broken prog_1_method_13_code 3 (Option.some Jvm.ClassFile.FieldType.int) ∈ TB := tb_t 579 (by decide +kernel) (by decide +kernel)
theorem w580 : Cond.methodLink "LinearHistories" 136 ySu_learnBreak ∈ TB := tb_t 580 (by decide +kernel) (by decide +kernel)
theorem w581 : Cond.instanceMethod ySu_learnBreak ∈ TB := tb_t 581 (by decide +kernel) (by decide +kernel)
theorem w582 : Cond.selects "LinearHistories$Subject" ySu_learnBreak ySu_learnBreak ∈ TB := tb_t 582 (by decide +kernel) (by decide +kernel)
theorem w583 : Cond.code ySu_learnBreak prog_5_method_12_code 5 (Option.none : Option Jvm.ClassFile.FieldType) ∈ TB := tb_t 583 (by decide +kernel) (by decide +kernel)
theorem w584 : Cond.methodLink "LinearHistories$Subject" 136 ySu_learn ∈ TB := tb_t 584 (by decide +kernel) (by decide +kernel)
theorem w585 : Cond.methodLink "LinearHistoriesLaw" 115 yLa_length ∈ TB := tb_t 585 (by decide +kernel) (by decide +kernel)
theorem w586 : Cond.static yLa_length ∈ TB := tb_t 586 (by decide +kernel) (by decide +kernel)
theorem w587 : Cond.codeWith yLa_length method_13_code 3 (Option.some Jvm.ClassFile.FieldType.int) [(0, 8, 11, 19)] ∈ TB := tb_t 587 (by decide +kernel) (by decide +kernel)
theorem w588 : Cond.methodLink "LinearHistoriesLaw" 48 yLH_length ∈ TB := tb_t 588 (by decide +kernel) (by decide +kernel)
theorem w589 : Cond.instanceMethod yLH_length ∈ TB := tb_t 589 (by decide +kernel) (by decide +kernel)
theorem w590 : Cond.selects "LinearHistories" yLH_length yLH_length ∈ TB := tb_t 590 (by decide +kernel) (by decide +kernel)
theorem w591 : Cond.code yLH_length prog_1_method_15_code 1 (Option.some Jvm.ClassFile.FieldType.int) ∈ TB := tb_t 591 (by decide +kernel) (by decide +kernel)
theorem w592 : Cond.methodLink "LinearHistories" 145 yLH_linear ∈ TB := tb_t 592 (by decide +kernel) (by decide +kernel)
theorem w593 : Cond.methodLink "LinearHistories" 148 yLH_checkLinear ∈ TB := tb_t 593 (by decide +kernel) (by decide +kernel)
theorem w595 : Cond.instanceMethod yLH_checkLinear ∈ TB := tb_t 595 (by decide +kernel) (by decide +kernel)
theorem w596 : Cond.code yLH_checkLinear prog_1_method_18_code 2 (Option.none : Option Jvm.ClassFile.FieldType) ∈ TB := tb_t 596 (by decide +kernel) (by decide +kernel)
theorem w598 : Cond.methodLink "LinearHistories" 151 yLH_buildRow ∈ TB := tb_t 598 (by decide +kernel) (by decide +kernel)
theorem w600 : Cond.instanceMethod yLH_buildRow ∈ TB := tb_t 600 (by decide +kernel) (by decide +kernel)
theorem w601 : Cond.code yLH_buildRow prog_1_method_24_code 4 (Option.none : Option Jvm.ClassFile.FieldType) ∈ TB := tb_t 601 (by decide +kernel) (by decide +kernel)
theorem w602 : Cond.methodLink "LinearHistories" 176 ySp_markHopeful ∈ TB := tb_t 602 (by decide +kernel) (by decide +kernel)
theorem w603 : Cond.instanceMethod ySp_markHopeful ∈ TB := tb_t 603 (by decide +kernel) (by decide +kernel)
theorem w604 : Cond.selects "LinearHistories$Space" ySp_markHopeful ySp_markHopeful ∈ TB := tb_t 604 (by decide +kernel) (by decide +kernel)
theorem w605 : Cond.code ySp_markHopeful prog_3_method_9_code 6 (Option.none : Option Jvm.ClassFile.FieldType) ∈ TB := tb_t 605 (by decide +kernel) (by decide +kernel)
theorem w606 : Cond.methodLink "LinearHistories$Space" 114 ySp_target ∈ TB := tb_t 606 (by decide +kernel) (by decide +kernel)
theorem w607 : Cond.instanceMethod ySp_target ∈ TB := tb_t 607 (by decide +kernel) (by decide +kernel)
theorem w608 : Cond.selects "LinearHistories$Space" ySp_target ySp_target ∈ TB := tb_t 608 (by decide +kernel) (by decide +kernel)
theorem w609 : Cond.code ySp_target prog_3_method_5_code 4 (Option.some Jvm.ClassFile.FieldType.int) ∈ TB := tb_t 609 (by decide +kernel) (by decide +kernel)
theorem w610 : Cond.methodLink "LinearHistories$Space" 107 yTa_find ∈ TB := tb_t 610 (by decide +kernel) (by decide +kernel)
theorem w611 : Cond.instanceMethod yTa_find ∈ TB := tb_t 611 (by decide +kernel) (by decide +kernel)
theorem w612 : Cond.selects "LinearHistories$Table" yTa_find yTa_find ∈ TB := tb_t 612 (by decide +kernel) (by decide +kernel)
theorem w613 : Cond.code yTa_find prog_6_method_3_code 4 (Option.some Jvm.ClassFile.FieldType.int) ∈ TB := tb_t 613 (by decide +kernel) (by decide +kernel)
theorem w614 : Cond.methodLink "LinearHistories" 180 yLH_allAtEnds ∈ TB := tb_t 614 (by decide +kernel) (by decide +kernel)
theorem w616 : Cond.instanceMethod yLH_allAtEnds ∈ TB := tb_t 616 (by decide +kernel) (by decide +kernel)
theorem w617 : Cond.code yLH_allAtEnds prog_1_method_25_code 2 (Option.some Jvm.ClassFile.FieldType.boolean) ∈ TB := tb_t 617 (by decide +kernel) (by decide +kernel)
theorem w618 : Cond.methodLink "LinearHistories" 188 ySp_isEnd ∈ TB := tb_t 618 (by decide +kernel) (by decide +kernel)
theorem w619 : Cond.methodLink "LinearHistories" 184 yLH_placeNext ∈ TB := tb_t 619 (by decide +kernel) (by decide +kernel)
theorem w621 : Cond.instanceMethod yLH_placeNext ∈ TB := tb_t 621 (by decide +kernel) (by decide +kernel)
theorem w622 : Cond.code yLH_placeNext prog_1_method_26_code 8 (Option.some Jvm.ClassFile.FieldType.int) ∈ TB := tb_t 622 (by decide +kernel) (by decide +kernel)
theorem w623 : Cond.constantLong "LinearHistories" 192 (-1 : Int64) ∈ TB := tb_t 623 (by decide +kernel) (by decide +kernel)
theorem w624 : Cond.methodLink "LinearHistories" 194 ySp_target ∈ TB := tb_t 624 (by decide +kernel) (by decide +kernel)
theorem w625 : Cond.methodLink "LinearHistoriesLaw" 119 yLa_row ∈ TB := tb_t 625 (by decide +kernel) (by decide +kernel)
theorem w626 : Cond.static yLa_row ∈ TB := tb_t 626 (by decide +kernel) (by decide +kernel)
theorem w627 : Cond.codeWith yLa_row method_14_code 4 (Option.some Jvm.ClassFile.FieldType.int) [(0, 9, 12, 19), (0, 9, 15, 55)] ∈ TB := tb_t 627 (by decide +kernel) (by decide +kernel)
theorem w629 : Cond.methodLink "LinearHistoriesLaw" 52 yLH_row ∈ TB := tb_t 629 (by decide +kernel) (by decide +kernel)
theorem w630 : Cond.instanceMethod yLH_row ∈ TB := tb_t 630 (by decide +kernel) (by decide +kernel)
theorem w631 : Cond.selects "LinearHistories" yLH_row yLH_row ∈ TB := tb_t 631 (by decide +kernel) (by decide +kernel)
theorem w632 : Cond.code yLH_row prog_1_method_16_code 2 (Option.some Jvm.ClassFile.FieldType.int) ∈ TB := tb_t 632 (by decide +kernel) (by decide +kernel)
theorem w633 : Cond.methodLink "LinearHistories" 157 yLH_checkPlace ∈ TB := tb_t 633 (by decide +kernel) (by decide +kernel)
theorem w635 : Cond.instanceMethod yLH_checkPlace ∈ TB := tb_t 635 (by decide +kernel) (by decide +kernel)
theorem w636 : Cond.code yLH_checkPlace prog_1_method_19_code 2 (Option.none : Option Jvm.ClassFile.FieldType) ∈ TB := tb_t 636 (by decide +kernel) (by decide +kernel)
theorem w653 : Cond.methodLink "LinearHistoriesLaw" 122 yLa_result ∈ TB := tb_t 653 (by decide +kernel) (by decide +kernel)
theorem w654 : Cond.static yLa_result ∈ TB := tb_t 654 (by decide +kernel) (by decide +kernel)
theorem w655 : Cond.codeWith yLa_result method_15_code 4 (Option.some Jvm.ClassFile.FieldType.int) [(0, 9, 12, 19), (0, 9, 15, 55)] ∈ TB := tb_t 655 (by decide +kernel) (by decide +kernel)
theorem w656 : Cond.methodLink "LinearHistoriesLaw" 57 yLH_result ∈ TB := tb_t 656 (by decide +kernel) (by decide +kernel)
theorem w657 : Cond.instanceMethod yLH_result ∈ TB := tb_t 657 (by decide +kernel) (by decide +kernel)
theorem w658 : Cond.selects "LinearHistories" yLH_result yLH_result ∈ TB := tb_t 658 (by decide +kernel) (by decide +kernel)
theorem w659 : Cond.code yLH_result prog_1_method_17_code 2 (Option.some Jvm.ClassFile.FieldType.int) ∈ TB := tb_t 659 (by decide +kernel) (by decide +kernel)
theorem w660 : Cond.classLink "LinearHistoriesLaw" 61 "LinearHistoriesModel" ∈ TB := tb_t 660 (by decide +kernel) (by decide +kernel)
theorem w661 : Cond.instantiable "LinearHistoriesModel" 35 ∈ TB := tb_t 661 (by decide +kernel) (by decide +kernel)
theorem w662 : Cond.methodLink "LinearHistoriesLaw" 63 yMo_init ∈ TB := tb_t 662 (by decide +kernel) (by decide +kernel)
theorem w663 : Cond.instanceMethod yMo_init ∈ TB := tb_t 663 (by decide +kernel) (by decide +kernel)
theorem w664 : Cond.code yMo_init prog_8_method_1_code 1 (Option.none : Option Jvm.ClassFile.FieldType) ∈ TB := tb_t 664 (by decide +kernel) (by decide +kernel)
theorem w665 : Cond.methodLink "LinearHistoriesModel" 1 ⟨"java/lang/Object", "<init>", "()V"⟩ ∈ TB := tb_t 665 (by decide +kernel) (by decide +kernel)
theorem w666 : Cond.methodLink "LinearHistoriesModel" 90 yMo_forget ∈ TB := tb_t 666 (by decide +kernel) (by decide +kernel)
theorem w668 : Cond.instanceMethod yMo_forget ∈ TB := tb_t 668 (by decide +kernel) (by decide +kernel)
theorem w669 : Cond.code yMo_forget prog_8_method_3_code 2 (Option.none : Option Jvm.ClassFile.FieldType) ∈ TB := tb_t 669 (by decide +kernel) (by decide +kernel)
theorem w670 : Cond.methodLink "LinearHistoriesModel" 97 yMo_change ∈ TB := tb_t 670 (by decide +kernel) (by decide +kernel)
theorem w672 : Cond.instanceMethod yMo_change ∈ TB := tb_t 672 (by decide +kernel) (by decide +kernel)
theorem w673 : Cond.code yMo_change prog_8_method_4_code 2 (Option.none : Option Jvm.ClassFile.FieldType) ∈ TB := tb_t 673 (by decide +kernel) (by decide +kernel)
theorem w674 : Cond.fieldLink "LinearHistoriesModel" 93 "LinearHistoriesModel" "thrown" "I" ∈ TB := tb_t 674 (by decide +kernel) (by decide +kernel)
theorem w675 : Cond.fieldLink "LinearHistoriesModel" 104 "LinearHistoriesModel" "objects" "I" ∈ TB := tb_t 675 (by decide +kernel) (by decide +kernel)
theorem w676 : Cond.fieldLink "LinearHistoriesModel" 7 "LinearHistoriesModel" "kinds" "[I" ∈ TB := tb_t 676 (by decide +kernel) (by decide +kernel)
theorem w677 : Cond.fieldLink "LinearHistoriesModel" 13 "LinearHistoriesModel" "counts" "[I" ∈ TB := tb_t 677 (by decide +kernel) (by decide +kernel)
theorem w678 : Cond.fieldLink "LinearHistoriesModel" 16 "LinearHistoriesModel" "list" "[I" ∈ TB := tb_t 678 (by decide +kernel) (by decide +kernel)
theorem w679 : Cond.fieldLink "LinearHistoriesModel" 111 "LinearHistoriesModel" "operations" "I" ∈ TB := tb_t 679 (by decide +kernel) (by decide +kernel)
theorem w680 : Cond.fieldLink "LinearHistoriesModel" 19 "LinearHistoriesModel" "process" "[I" ∈ TB := tb_t 680 (by decide +kernel) (by decide +kernel)
theorem w681 : Cond.fieldLink "LinearHistoriesModel" 22 "LinearHistoriesModel" "objectOf" "[I" ∈ TB := tb_t 681 (by decide +kernel) (by decide +kernel)
theorem w682 : Cond.fieldLink "LinearHistoriesModel" 25 "LinearHistoriesModel" "operation" "[I" ∈ TB := tb_t 682 (by decide +kernel) (by decide +kernel)
theorem w683 : Cond.fieldLink "LinearHistoriesModel" 28 "LinearHistoriesModel" "first" "[I" ∈ TB := tb_t 683 (by decide +kernel) (by decide +kernel)
theorem w684 : Cond.fieldLink "LinearHistoriesModel" 31 "LinearHistoriesModel" "second" "[I" ∈ TB := tb_t 684 (by decide +kernel) (by decide +kernel)
theorem w685 : Cond.fieldLink "LinearHistoriesModel" 34 "LinearHistoriesModel" "backWith" "[I" ∈ TB := tb_t 685 (by decide +kernel) (by decide +kernel)
theorem w686 : Cond.fieldLink "LinearHistoriesModel" 37 "LinearHistoriesModel" "calledAt" "[I" ∈ TB := tb_t 686 (by decide +kernel) (by decide +kernel)
theorem w687 : Cond.fieldLink "LinearHistoriesModel" 40 "LinearHistoriesModel" "backAt" "[I" ∈ TB := tb_t 687 (by decide +kernel) (by decide +kernel)
theorem w688 : Cond.fieldLink "LinearHistoriesModel" 43 "LinearHistoriesModel" "open" "[I" ∈ TB := tb_t 688 (by decide +kernel) (by decide +kernel)
theorem w689 : Cond.fieldLink "LinearHistoriesModel" 114 "LinearHistoriesModel" "events" "I" ∈ TB := tb_t 689 (by decide +kernel) (by decide +kernel)
theorem w690 : Cond.fieldLink "LinearHistoriesModel" 46 "LinearHistoriesModel" "masks" "[I" ∈ TB := tb_t 690 (by decide +kernel) (by decide +kernel)
theorem w691 : Cond.fieldLink "LinearHistoriesModel" 49 "LinearHistoriesModel" "states" "[J" ∈ TB := tb_t 691 (by decide +kernel) (by decide +kernel)
end
section
theorem w692 : Cond.fieldLink "LinearHistoriesModel" 53 "LinearHistoriesModel" "alive" "[Z" ∈ TB := tb_t 692 (by decide +kernel) (by decide +kernel)
theorem w693 : Cond.fieldLink "LinearHistoriesModel" 57 "LinearHistoriesModel" "rows" "[J" ∈ TB := tb_t 693 (by decide +kernel) (by decide +kernel)
theorem w694 : Cond.fieldLink "LinearHistoriesModel" 60 "LinearHistoriesModel" "known" "[Z" ∈ TB := tb_t 694 (by decide +kernel) (by decide +kernel)
theorem w695 : Cond.fieldLink "LinearHistoriesModel" 63 "LinearHistoriesModel" "found" "[I" ∈ TB := tb_t 695 (by decide +kernel) (by decide +kernel)
theorem w696 : Cond.fieldLink "LinearHistoriesModel" 66 "LinearHistoriesModel" "judged" "[I" ∈ TB := tb_t 696 (by decide +kernel) (by decide +kernel)
theorem w697 : Cond.fieldLink "LinearHistoriesModel" 69 "LinearHistoriesModel" "ways" "[J" ∈ TB := tb_t 697 (by decide +kernel) (by decide +kernel)
theorem w698 : Cond.fieldLink "LinearHistoriesModel" 72 "LinearHistoriesModel" "lasts" "[I" ∈ TB := tb_t 698 (by decide +kernel) (by decide +kernel)
theorem w699 : Cond.fieldLink "LinearHistoriesModel" 75 "LinearHistoriesModel" "brokenAt" "[I" ∈ TB := tb_t 699 (by decide +kernel) (by decide +kernel)
theorem w700 : Cond.fieldLink "LinearHistoriesModel" 78 "LinearHistoriesModel" "knownBroken" "[Z" ∈ TB := tb_t 700 (by decide +kernel) (by decide +kernel)
theorem w701 : Cond.fieldLink "LinearHistoriesModel" 122 "LinearHistoriesModel" "state" "J" ∈ TB := tb_t 701 (by decide +kernel) (by decide +kernel)
theorem w702 : Cond.fieldLink "LinearHistoriesModel" 129 "LinearHistoriesModel" "things" "I" ∈ TB := tb_t 702 (by decide +kernel) (by decide +kernel)
theorem w703 : Cond.fieldLink "LinearHistoriesModel" 126 "LinearHistoriesModel" "told" "I" ∈ TB := tb_t 703 (by decide +kernel) (by decide +kernel)
theorem w704 : Cond.fieldLink "LinearHistoriesModel" 100 "LinearHistoriesModel" "knownRow" "Z" ∈ TB := tb_t 704 (by decide +kernel) (by decide +kernel)
theorem w705 : Cond.fieldLink "LinearHistoriesModel" 209 "LinearHistoriesModel" "length" "I" ∈ TB := tb_t 705 (by decide +kernel) (by decide +kernel)
theorem w706 : Cond.fieldLink "LinearHistoriesModel" 81 "LinearHistoriesModel" "row" "[I" ∈ TB := tb_t 706 (by decide +kernel) (by decide +kernel)
theorem w707 : Cond.fieldLink "LinearHistoriesModel" 84 "LinearHistoriesModel" "results" "[I" ∈ TB := tb_t 707 (by decide +kernel) (by decide +kernel)
theorem w708 : Cond.fieldLink "LinearHistoriesModel" 87 "LinearHistoriesModel" "at" "[I" ∈ TB := tb_t 708 (by decide +kernel) (by decide +kernel)
theorem w780 : Cond.methodLink "LinearHistoriesLaw" 70 yMo_thrown ∈ TB := tb_t 780 (by decide +kernel) (by decide +kernel)
theorem w781 : Cond.instanceMethod yMo_thrown ∈ TB := tb_t 781 (by decide +kernel) (by decide +kernel)
theorem w782 : Cond.selects "LinearHistoriesModel" yMo_thrown yMo_thrown ∈ TB := tb_t 782 (by decide +kernel) (by decide +kernel)
theorem w783 : Cond.code yMo_thrown prog_8_method_2_code 1 (Option.some Jvm.ClassFile.FieldType.int) ∈ TB := tb_t 783 (by decide +kernel) (by decide +kernel)
theorem w784 : Cond.methodLink "LinearHistoriesLaw" 69 yMo_object ∈ TB := tb_t 784 (by decide +kernel) (by decide +kernel)
theorem w785 : Cond.instanceMethod yMo_object ∈ TB := tb_t 785 (by decide +kernel) (by decide +kernel)
theorem w786 : Cond.selects "LinearHistoriesModel" yMo_object yMo_object ∈ TB := tb_t 786 (by decide +kernel) (by decide +kernel)
theorem w787 : Cond.code yMo_object prog_8_method_5_code 2 (Option.some Jvm.ClassFile.FieldType.int) ∈ TB := tb_t 787 (by decide +kernel) (by decide +kernel)
theorem w788 : Cond.methodLink "LinearHistoriesLaw" 76 yMo_call ∈ TB := tb_t 788 (by decide +kernel) (by decide +kernel)
theorem w789 : Cond.instanceMethod yMo_call ∈ TB := tb_t 789 (by decide +kernel) (by decide +kernel)
theorem w790 : Cond.selects "LinearHistoriesModel" yMo_call yMo_call ∈ TB := tb_t 790 (by decide +kernel) (by decide +kernel)
theorem w791 : Cond.code yMo_call prog_8_method_7_code 8 (Option.some Jvm.ClassFile.FieldType.int) ∈ TB := tb_t 791 (by decide +kernel) (by decide +kernel)
theorem w792 : Cond.methodLink "LinearHistoriesModel" 107 yMo_noObject ∈ TB := tb_t 792 (by decide +kernel) (by decide +kernel)
theorem w794 : Cond.instanceMethod yMo_noObject ∈ TB := tb_t 794 (by decide +kernel) (by decide +kernel)
theorem w795 : Cond.code yMo_noObject prog_8_method_6_code 2 (Option.some Jvm.ClassFile.FieldType.boolean) ∈ TB := tb_t 795 (by decide +kernel) (by decide +kernel)
theorem w796 : Cond.methodLink "LinearHistoriesLaw" 80 yMo_back ∈ TB := tb_t 796 (by decide +kernel) (by decide +kernel)
theorem w797 : Cond.instanceMethod yMo_back ∈ TB := tb_t 797 (by decide +kernel) (by decide +kernel)
theorem w798 : Cond.selects "LinearHistoriesModel" yMo_back yMo_back ∈ TB := tb_t 798 (by decide +kernel) (by decide +kernel)
theorem w799 : Cond.code yMo_back prog_8_method_9_code 3 (Option.none : Option Jvm.ClassFile.FieldType) ∈ TB := tb_t 799 (by decide +kernel) (by decide +kernel)
theorem w800 : Cond.methodLink "LinearHistoriesModel" 117 yMo_isIdle ∈ TB := tb_t 800 (by decide +kernel) (by decide +kernel)
theorem w802 : Cond.instanceMethod yMo_isIdle ∈ TB := tb_t 802 (by decide +kernel) (by decide +kernel)
theorem w803 : Cond.code yMo_isIdle prog_8_method_8_code 2 (Option.some Jvm.ClassFile.FieldType.boolean) ∈ TB := tb_t 803 (by decide +kernel) (by decide +kernel)
theorem w804 : Cond.methodLink "LinearHistoriesLaw" 84 yMo_lose ∈ TB := tb_t 804 (by decide +kernel) (by decide +kernel)
theorem w805 : Cond.instanceMethod yMo_lose ∈ TB := tb_t 805 (by decide +kernel) (by decide +kernel)
theorem w806 : Cond.selects "LinearHistoriesModel" yMo_lose yMo_lose ∈ TB := tb_t 806 (by decide +kernel) (by decide +kernel)
theorem w807 : Cond.code yMo_lose prog_8_method_10_code 2 (Option.none : Option Jvm.ClassFile.FieldType) ∈ TB := tb_t 807 (by decide +kernel) (by decide +kernel)
theorem w808 : Cond.methodLink "LinearHistoriesLaw" 88 yMo_clear ∈ TB := tb_t 808 (by decide +kernel) (by decide +kernel)
theorem w809 : Cond.instanceMethod yMo_clear ∈ TB := tb_t 809 (by decide +kernel) (by decide +kernel)
theorem w810 : Cond.selects "LinearHistoriesModel" yMo_clear yMo_clear ∈ TB := tb_t 810 (by decide +kernel) (by decide +kernel)
theorem w811 : Cond.code yMo_clear prog_8_method_11_code 2 (Option.some Jvm.ClassFile.FieldType.int) ∈ TB := tb_t 811 (by decide +kernel) (by decide +kernel)
theorem w812 : Cond.methodLink "LinearHistoriesLaw" 92 yMo_events ∈ TB := tb_t 812 (by decide +kernel) (by decide +kernel)
theorem w813 : Cond.instanceMethod yMo_events ∈ TB := tb_t 813 (by decide +kernel) (by decide +kernel)
theorem w814 : Cond.selects "LinearHistoriesModel" yMo_events yMo_events ∈ TB := tb_t 814 (by decide +kernel) (by decide +kernel)
theorem w815 : Cond.code yMo_events prog_8_method_12_code 1 (Option.some Jvm.ClassFile.FieldType.int) ∈ TB := tb_t 815 (by decide +kernel) (by decide +kernel)
theorem w816 : Cond.methodLink "LinearHistoriesLaw" 95 yMo_possibilities ∈ TB := tb_t 816 (by decide +kernel) (by decide +kernel)
theorem w817 : Cond.instanceMethod yMo_possibilities ∈ TB := tb_t 817 (by decide +kernel) (by decide +kernel)
theorem w818 : Cond.selects "LinearHistoriesModel" yMo_possibilities yMo_possibilities ∈ TB := tb_t 818 (by decide +kernel) (by decide +kernel)
theorem w819 : Cond.code yMo_possibilities prog_8_method_29_code 2 (Option.some Jvm.ClassFile.FieldType.int) ∈ TB := tb_t 819 (by decide +kernel) (by decide +kernel)
theorem w820 : Cond.methodLink "LinearHistoriesModel" 195 yMo_look ∈ TB := tb_t 820 (by decide +kernel) (by decide +kernel)
theorem w822 : Cond.instanceMethod yMo_look ∈ TB := tb_t 822 (by decide +kernel) (by decide +kernel)
theorem w823 : Cond.code yMo_look prog_8_method_28_code 7 (Option.none : Option Jvm.ClassFile.FieldType) ∈ TB := tb_t 823 (by decide +kernel) (by decide +kernel)
theorem w824 : Cond.methodLink "LinearHistoriesModel" 185 yMo_gather ∈ TB := tb_t 824 (by decide +kernel) (by decide +kernel)
theorem w826 : Cond.instanceMethod yMo_gather ∈ TB := tb_t 826 (by decide +kernel) (by decide +kernel)
theorem w827 : Cond.code yMo_gather prog_8_method_25_code 10 (Option.some Jvm.ClassFile.FieldType.int) ∈ TB := tb_t 827 (by decide +kernel) (by decide +kernel)
theorem w828 : Cond.methodLink "LinearHistoriesModel" 172 yMo_can ∈ TB := tb_t 828 (by decide +kernel) (by decide +kernel)
theorem w830 : Cond.instanceMethod yMo_can ∈ TB := tb_t 830 (by decide +kernel) (by decide +kernel)
theorem w831 : Cond.code yMo_can prog_8_method_23_code 8 (Option.some Jvm.ClassFile.FieldType.boolean) ∈ TB := tb_t 831 (by decide +kernel) (by decide +kernel)
theorem w832 : Cond.methodLink "LinearHistoriesModel" 165 yMo_isBefore ∈ TB := tb_t 832 (by decide +kernel) (by decide +kernel)
theorem w834 : Cond.instanceMethod yMo_isBefore ∈ TB := tb_t 834 (by decide +kernel) (by decide +kernel)
theorem w835 : Cond.code yMo_isBefore prog_8_method_22_code 5 (Option.some Jvm.ClassFile.FieldType.boolean) ∈ TB := tb_t 835 (by decide +kernel) (by decide +kernel)
theorem w836 : Cond.methodLink "LinearHistoriesModel" 161 yMo_isBack ∈ TB := tb_t 836 (by decide +kernel) (by decide +kernel)
theorem w838 : Cond.instanceMethod yMo_isBack ∈ TB := tb_t 838 (by decide +kernel) (by decide +kernel)
theorem w839 : Cond.code yMo_isBack prog_8_method_21_code 3 (Option.some Jvm.ClassFile.FieldType.boolean) ∈ TB := tb_t 839 (by decide +kernel) (by decide +kernel)
theorem w840 : Cond.methodLink "LinearHistoriesModel" 169 yMo_doIt ∈ TB := tb_t 840 (by decide +kernel) (by decide +kernel)
theorem w842 : Cond.instanceMethod yMo_doIt ∈ TB := tb_t 842 (by decide +kernel) (by decide +kernel)
theorem w843 : Cond.code yMo_doIt prog_8_method_20_code 5 (Option.none : Option Jvm.ClassFile.FieldType) ∈ TB := tb_t 843 (by decide +kernel) (by decide +kernel)
theorem w844 : Cond.methodLink "LinearHistoriesModel" 148 yMo_doRegister ∈ TB := tb_t 844 (by decide +kernel) (by decide +kernel)
theorem w846 : Cond.instanceMethod yMo_doRegister ∈ TB := tb_t 846 (by decide +kernel) (by decide +kernel)
theorem w847 : Cond.code yMo_doRegister prog_8_method_16_code 5 (Option.none : Option Jvm.ClassFile.FieldType) ∈ TB := tb_t 847 (by decide +kernel) (by decide +kernel)
theorem w848 : Cond.methodLink "LinearHistoriesModel" 152 yMo_doSet ∈ TB := tb_t 848 (by decide +kernel) (by decide +kernel)
theorem w850 : Cond.instanceMethod yMo_doSet ∈ TB := tb_t 850 (by decide +kernel) (by decide +kernel)
theorem w851 : Cond.code yMo_doSet prog_8_method_18_code 7 (Option.none : Option Jvm.ClassFile.FieldType) ∈ TB := tb_t 851 (by decide +kernel) (by decide +kernel)
theorem w852 : Cond.methodLink "LinearHistoriesModel" 132 yMo_likeFirst ∈ TB := tb_t 852 (by decide +kernel) (by decide +kernel)
theorem w854 : Cond.instanceMethod yMo_likeFirst ∈ TB := tb_t 854 (by decide +kernel) (by decide +kernel)
theorem w855 : Cond.code yMo_likeFirst prog_8_method_13_code 4 (Option.some Jvm.ClassFile.FieldType.int) ∈ TB := tb_t 855 (by decide +kernel) (by decide +kernel)
theorem w856 : Cond.constantLong "LinearHistoriesModel" 141 (-1 : Int64) ∈ TB := tb_t 856 (by decide +kernel) (by decide +kernel)
theorem w857 : Cond.methodLink "LinearHistoriesModel" 155 yMo_doMap ∈ TB := tb_t 857 (by decide +kernel) (by decide +kernel)
theorem w859 : Cond.instanceMethod yMo_doMap ∈ TB := tb_t 859 (by decide +kernel) (by decide +kernel)
theorem w860 : Cond.code yMo_doMap prog_8_method_19_code 7 (Option.none : Option Jvm.ClassFile.FieldType) ∈ TB := tb_t 860 (by decide +kernel) (by decide +kernel)
theorem w861 : Cond.constantLong "LinearHistoriesModel" 143 (31 : Int64) ∈ TB := tb_t 861 (by decide +kernel) (by decide +kernel)
theorem w862 : Cond.constant "LinearHistoriesModel" 140 (-2147483648 : Int32) ∈ TB := tb_t 862 (by decide +kernel) (by decide +kernel)
theorem w863 : Cond.methodLink "LinearHistoriesModel" 145 yMo_likeSecond ∈ TB := tb_t 863 (by decide +kernel) (by decide +kernel)
theorem w865 : Cond.instanceMethod yMo_likeSecond ∈ TB := tb_t 865 (by decide +kernel) (by decide +kernel)
theorem w866 : Cond.code yMo_likeSecond prog_8_method_14_code 4 (Option.some Jvm.ClassFile.FieldType.int) ∈ TB := tb_t 866 (by decide +kernel) (by decide +kernel)
theorem w867 : Cond.methodLink "LinearHistoriesModel" 158 yMo_doRow ∈ TB := tb_t 867 (by decide +kernel) (by decide +kernel)
theorem w869 : Cond.instanceMethod yMo_doRow ∈ TB := tb_t 869 (by decide +kernel) (by decide +kernel)
theorem w870 : Cond.code yMo_doRow prog_8_method_17_code 11 (Option.none : Option Jvm.ClassFile.FieldType) ∈ TB := tb_t 870 (by decide +kernel) (by decide +kernel)
theorem w871 : Cond.methodLink "LinearHistoriesModel" 136 yMo_thing ∈ TB := tb_t 871 (by decide +kernel) (by decide +kernel)
theorem w872 : Cond.static yMo_thing ∈ TB := tb_t 872 (by decide +kernel) (by decide +kernel)
theorem w873 : Cond.code yMo_thing prog_8_method_15_code 3 (Option.some Jvm.ClassFile.FieldType.int) ∈ TB := tb_t 873 (by decide +kernel) (by decide +kernel)
theorem w874 : Cond.constantLong "LinearHistoriesModel" 120 (15 : Int64) ∈ TB := tb_t 874 (by decide +kernel) (by decide +kernel)
theorem w875 : Cond.constant "LinearHistoriesModel" 176 (65535 : Int32) ∈ TB := tb_t 875 (by decide +kernel) (by decide +kernel)
theorem w876 : Cond.methodLink "LinearHistoriesModel" 177 yMo_search ∈ TB := tb_t 876 (by decide +kernel) (by decide +kernel)
theorem w878 : Cond.instanceMethod yMo_search ∈ TB := tb_t 878 (by decide +kernel) (by decide +kernel)
theorem w879 : Cond.code yMo_search prog_8_method_24_code 5 (Option.some Jvm.ClassFile.FieldType.int) ∈ TB := tb_t 879 (by decide +kernel) (by decide +kernel)
theorem w880 : Cond.methodLink "LinearHistoriesModel" 189 yMo_judgeOf ∈ TB := tb_t 880 (by decide +kernel) (by decide +kernel)
theorem w882 : Cond.instanceMethod yMo_judgeOf ∈ TB := tb_t 882 (by decide +kernel) (by decide +kernel)
theorem w883 : Cond.code yMo_judgeOf prog_8_method_27_code 6 (Option.some Jvm.ClassFile.FieldType.int) ∈ TB := tb_t 883 (by decide +kernel) (by decide +kernel)
theorem w884 : Cond.methodLink "LinearHistoriesModel" 181 yMo_isEnd ∈ TB := tb_t 884 (by decide +kernel) (by decide +kernel)
theorem w886 : Cond.instanceMethod yMo_isEnd ∈ TB := tb_t 886 (by decide +kernel) (by decide +kernel)
theorem w887 : Cond.code yMo_isEnd prog_8_method_26_code 5 (Option.some Jvm.ClassFile.FieldType.boolean) ∈ TB := tb_t 887 (by decide +kernel) (by decide +kernel)
theorem w888 : Cond.constantLong "LinearHistoriesModel" 193 (-2 : Int64) ∈ TB := tb_t 888 (by decide +kernel) (by decide +kernel)
theorem w889 : Cond.methodLink "LinearHistoriesLaw" 98 yMo_judge ∈ TB := tb_t 889 (by decide +kernel) (by decide +kernel)
theorem w890 : Cond.instanceMethod yMo_judge ∈ TB := tb_t 890 (by decide +kernel) (by decide +kernel)
theorem w891 : Cond.selects "LinearHistoriesModel" yMo_judge yMo_judge ∈ TB := tb_t 891 (by decide +kernel) (by decide +kernel)
theorem w892 : Cond.code yMo_judge prog_8_method_30_code 2 (Option.some Jvm.ClassFile.FieldType.int) ∈ TB := tb_t 892 (by decide +kernel) (by decide +kernel)
theorem w893 : Cond.methodLink "LinearHistoriesLaw" 101 yMo_judgeOwn ∈ TB := tb_t 893 (by decide +kernel) (by decide +kernel)
theorem w894 : Cond.instanceMethod yMo_judgeOwn ∈ TB := tb_t 894 (by decide +kernel) (by decide +kernel)
theorem w895 : Cond.selects "LinearHistoriesModel" yMo_judgeOwn yMo_judgeOwn ∈ TB := tb_t 895 (by decide +kernel) (by decide +kernel)
theorem w896 : Cond.code yMo_judgeOwn prog_8_method_31_code 3 (Option.some Jvm.ClassFile.FieldType.int) ∈ TB := tb_t 896 (by decide +kernel) (by decide +kernel)
theorem w897 : Cond.methodLink "LinearHistoriesLaw" 104 yMo_ways ∈ TB := tb_t 897 (by decide +kernel) (by decide +kernel)
theorem w898 : Cond.instanceMethod yMo_ways ∈ TB := tb_t 898 (by decide +kernel) (by decide +kernel)
theorem w899 : Cond.selects "LinearHistoriesModel" yMo_ways yMo_ways ∈ TB := tb_t 899 (by decide +kernel) (by decide +kernel)
theorem w900 : Cond.code yMo_ways prog_8_method_32_code 2 (Option.some Jvm.ClassFile.FieldType.long) ∈ TB := tb_t 900 (by decide +kernel) (by decide +kernel)
theorem w901 : Cond.methodLink "LinearHistoriesLaw" 107 yMo_lasts ∈ TB := tb_t 901 (by decide +kernel) (by decide +kernel)
theorem w902 : Cond.instanceMethod yMo_lasts ∈ TB := tb_t 902 (by decide +kernel) (by decide +kernel)
theorem w903 : Cond.selects "LinearHistoriesModel" yMo_lasts yMo_lasts ∈ TB := tb_t 903 (by decide +kernel) (by decide +kernel)
theorem w904 : Cond.code yMo_lasts prog_8_method_33_code 2 (Option.some Jvm.ClassFile.FieldType.int) ∈ TB := tb_t 904 (by decide +kernel) (by decide +kernel)
theorem w905 : Cond.methodLink "LinearHistoriesLaw" 110 yMo_broken ∈ TB := tb_t 905 (by decide +kernel) (by decide +kernel)
theorem w906 : Cond.instanceMethod yMo_broken ∈ TB := tb_t 906 (by decide +kernel) (by decide +kernel)
theorem w907 : Cond.selects "LinearHistoriesModel" yMo_broken yMo_broken ∈ TB := tb_t 907 (by decide +kernel) (by decide +kernel)
theorem w908 : Cond.code yMo_broken prog_8_method_35_code 4 (Option.some Jvm.ClassFile.FieldType.int) ∈ TB := tb_t 908 (by decide +kernel) (by decide +kernel)
theorem w909 : Cond.methodLink "LinearHistoriesModel" 199 yMo_isTouched ∈ TB := tb_t 909 (by decide +kernel) (by decide +kernel)
theorem w911 : Cond.instanceMethod yMo_isTouched ∈ TB := tb_t 911 (by decide +kernel) (by decide +kernel)
theorem w912 : Cond.code yMo_isTouched prog_8_method_34_code 5 (Option.some Jvm.ClassFile.FieldType.boolean) ∈ TB := tb_t 912 (by decide +kernel) (by decide +kernel)
theorem w913 : Cond.methodLink "LinearHistoriesLaw" 114 yMo_linear ∈ TB := tb_t 913 (by decide +kernel) (by decide +kernel)
theorem w914 : Cond.instanceMethod yMo_linear ∈ TB := tb_t 914 (by decide +kernel) (by decide +kernel)
theorem w915 : Cond.selects "LinearHistoriesModel" yMo_linear yMo_linear ∈ TB := tb_t 915 (by decide +kernel) (by decide +kernel)
theorem w916 : Cond.code yMo_linear prog_8_method_37_code 1 (Option.some Jvm.ClassFile.FieldType.int) ∈ TB := tb_t 916 (by decide +kernel) (by decide +kernel)
theorem w917 : Cond.methodLink "LinearHistoriesModel" 202 yMo_linearity ∈ TB := tb_t 917 (by decide +kernel) (by decide +kernel)
theorem w919 : Cond.instanceMethod yMo_linearity ∈ TB := tb_t 919 (by decide +kernel) (by decide +kernel)
theorem w920 : Cond.code yMo_linearity prog_8_method_36_code 3 (Option.some Jvm.ClassFile.FieldType.int) ∈ TB := tb_t 920 (by decide +kernel) (by decide +kernel)
theorem w921 : Cond.methodLink "LinearHistoriesLaw" 118 yMo_length ∈ TB := tb_t 921 (by decide +kernel) (by decide +kernel)
theorem w922 : Cond.instanceMethod yMo_length ∈ TB := tb_t 922 (by decide +kernel) (by decide +kernel)
theorem w923 : Cond.selects "LinearHistoriesModel" yMo_length yMo_length ∈ TB := tb_t 923 (by decide +kernel) (by decide +kernel)
theorem w924 : Cond.code yMo_length prog_8_method_43_code 1 (Option.some Jvm.ClassFile.FieldType.int) ∈ TB := tb_t 924 (by decide +kernel) (by decide +kernel)
theorem w925 : Cond.methodLink "LinearHistoriesModel" 222 yMo_lay ∈ TB := tb_t 925 (by decide +kernel) (by decide +kernel)
theorem w927 : Cond.instanceMethod yMo_lay ∈ TB := tb_t 927 (by decide +kernel) (by decide +kernel)
theorem w928 : Cond.code yMo_lay prog_8_method_42_code 2 (Option.some Jvm.ClassFile.FieldType.boolean) ∈ TB := tb_t 928 (by decide +kernel) (by decide +kernel)
theorem w929 : Cond.methodLink "LinearHistoriesModel" 212 yMo_enliven ∈ TB := tb_t 929 (by decide +kernel) (by decide +kernel)
theorem w931 : Cond.instanceMethod yMo_enliven ∈ TB := tb_t 931 (by decide +kernel) (by decide +kernel)
theorem w932 : Cond.code yMo_enliven prog_8_method_38_code 6 (Option.none : Option Jvm.ClassFile.FieldType) ∈ TB := tb_t 932 (by decide +kernel) (by decide +kernel)
theorem w933 : Cond.methodLink "LinearHistoriesModel" 215 yMo_isWhole ∈ TB := tb_t 933 (by decide +kernel) (by decide +kernel)
theorem w935 : Cond.instanceMethod yMo_isWhole ∈ TB := tb_t 935 (by decide +kernel) (by decide +kernel)
theorem w936 : Cond.code yMo_isWhole prog_8_method_41_code 2 (Option.some Jvm.ClassFile.FieldType.boolean) ∈ TB := tb_t 936 (by decide +kernel) (by decide +kernel)
theorem w937 : Cond.methodLink "LinearHistoriesModel" 219 yMo_goesOn ∈ TB := tb_t 937 (by decide +kernel) (by decide +kernel)
theorem w939 : Cond.instanceMethod yMo_goesOn ∈ TB := tb_t 939 (by decide +kernel) (by decide +kernel)
theorem w940 : Cond.code yMo_goesOn prog_8_method_40_code 6 (Option.some Jvm.ClassFile.FieldType.boolean) ∈ TB := tb_t 940 (by decide +kernel) (by decide +kernel)
theorem w941 : Cond.methodLink "LinearHistoriesModel" 206 yMo_isDone ∈ TB := tb_t 941 (by decide +kernel) (by decide +kernel)
theorem w943 : Cond.instanceMethod yMo_isDone ∈ TB := tb_t 943 (by decide +kernel) (by decide +kernel)
theorem w944 : Cond.code yMo_isDone prog_8_method_39_code 4 (Option.some Jvm.ClassFile.FieldType.boolean) ∈ TB := tb_t 944 (by decide +kernel) (by decide +kernel)
theorem w945 : Cond.methodLink "LinearHistoriesLaw" 121 yMo_row ∈ TB := tb_t 945 (by decide +kernel) (by decide +kernel)
theorem w946 : Cond.instanceMethod yMo_row ∈ TB := tb_t 946 (by decide +kernel) (by decide +kernel)
theorem w947 : Cond.selects "LinearHistoriesModel" yMo_row yMo_row ∈ TB := tb_t 947 (by decide +kernel) (by decide +kernel)
theorem w948 : Cond.code yMo_row prog_8_method_44_code 2 (Option.some Jvm.ClassFile.FieldType.int) ∈ TB := tb_t 948 (by decide +kernel) (by decide +kernel)
theorem w949 : Cond.methodLink "LinearHistoriesLaw" 124 yMo_result ∈ TB := tb_t 949 (by decide +kernel) (by decide +kernel)
theorem w950 : Cond.instanceMethod yMo_result ∈ TB := tb_t 950 (by decide +kernel) (by decide +kernel)
theorem w951 : Cond.selects "LinearHistoriesModel" yMo_result yMo_result ∈ TB := tb_t 951 (by decide +kernel) (by decide +kernel)
theorem w952 : Cond.code yMo_result prog_8_method_45_code 2 (Option.some Jvm.ClassFile.FieldType.int) ∈ TB := tb_t 952 (by decide +kernel) (by decide +kernel)
theorem ws0 : Cond.selects "LinearHistories" yLH_subjectOf yLH_subjectOf ∈ TB := tb_s 0 (by decide +kernel) (by decide +kernel)
theorem ws2 : Cond.selects "LinearHistories$Table" yTa_chainOf yTa_chainOf ∈ TB := tb_s 2 (by decide +kernel) (by decide +kernel)
theorem ws3 : Cond.selects "LinearHistories$Table" yTa_findIn yTa_findIn ∈ TB := tb_s 3 (by decide +kernel) (by decide +kernel)
theorem ws4 : Cond.selects "LinearHistories$Space" ySp_step ySp_step ∈ TB := tb_s 4 (by decide +kernel) (by decide +kernel)
theorem ws5 : Cond.selects "LinearHistories$State" ySt_changeRegister ySt_changeRegister ∈ TB := tb_s 5 (by decide +kernel) (by decide +kernel)
theorem ws6 : Cond.selects "LinearHistories$State" ySt_changeSet ySt_changeSet ∈ TB := tb_s 6 (by decide +kernel) (by decide +kernel)
theorem ws7 : Cond.selects "LinearHistories$State" ySt_changeMap ySt_changeMap ∈ TB := tb_s 7 (by decide +kernel) (by decide +kernel)
theorem ws8 : Cond.selects "LinearHistories$State" ySt_changeSequence ySt_changeSequence ∈ TB := tb_s 8 (by decide +kernel) (by decide +kernel)
theorem ws9 : Cond.selects "LinearHistories$State" ySt_placeInHeap ySt_placeInHeap ∈ TB := tb_s 9 (by decide +kernel) (by decide +kernel)
theorem ws10 : Cond.selects "LinearHistories$State" ySt_insertAt ySt_insertAt ∈ TB := tb_s 10 (by decide +kernel) (by decide +kernel)
theorem ws11 : Cond.selects "LinearHistories$State" ySt_removeAt ySt_removeAt ∈ TB := tb_s 11 (by decide +kernel) (by decide +kernel)
theorem ws12 : Cond.selects "LinearHistories$Space" ySp_keyBehind ySp_keyBehind ∈ TB := tb_s 12 (by decide +kernel) (by decide +kernel)
theorem ws13 : Cond.selects "LinearHistories" yLH_checkProcess yLH_checkProcess ∈ TB := tb_s 13 (by decide +kernel) (by decide +kernel)
theorem ws14 : Cond.selects "LinearHistories" yLH_operationOf yLH_operationOf ∈ TB := tb_s 14 (by decide +kernel) (by decide +kernel)
theorem ws15 : Cond.selects "LinearHistories" yLH_learnedSubject yLH_learnedSubject ∈ TB := tb_s 15 (by decide +kernel) (by decide +kernel)
theorem ws16 : Cond.selects "LinearHistories" yLH_checkLinear yLH_checkLinear ∈ TB := tb_s 16 (by decide +kernel) (by decide +kernel)
theorem ws17 : Cond.selects "LinearHistories" yLH_buildRow yLH_buildRow ∈ TB := tb_s 17 (by decide +kernel) (by decide +kernel)
theorem ws18 : Cond.selects "LinearHistories" yLH_allAtEnds yLH_allAtEnds ∈ TB := tb_s 18 (by decide +kernel) (by decide +kernel)
theorem ws19 : Cond.selects "LinearHistories" yLH_placeNext yLH_placeNext ∈ TB := tb_s 19 (by decide +kernel) (by decide +kernel)
theorem ws20 : Cond.selects "LinearHistories" yLH_checkPlace yLH_checkPlace ∈ TB := tb_s 20 (by decide +kernel) (by decide +kernel)
theorem ws21 : Cond.selects "LinearHistoriesModel" yMo_forget yMo_forget ∈ TB := tb_s 21 (by decide +kernel) (by decide +kernel)
theorem ws22 : Cond.selects "LinearHistoriesModel" yMo_change yMo_change ∈ TB := tb_s 22 (by decide +kernel) (by decide +kernel)
theorem ws23 : Cond.selects "LinearHistoriesModel" yMo_noObject yMo_noObject ∈ TB := tb_s 23 (by decide +kernel) (by decide +kernel)
theorem ws24 : Cond.selects "LinearHistoriesModel" yMo_isIdle yMo_isIdle ∈ TB := tb_s 24 (by decide +kernel) (by decide +kernel)
theorem ws25 : Cond.selects "LinearHistoriesModel" yMo_look yMo_look ∈ TB := tb_s 25 (by decide +kernel) (by decide +kernel)
theorem ws26 : Cond.selects "LinearHistoriesModel" yMo_gather yMo_gather ∈ TB := tb_s 26 (by decide +kernel) (by decide +kernel)
theorem ws27 : Cond.selects "LinearHistoriesModel" yMo_can yMo_can ∈ TB := tb_s 27 (by decide +kernel) (by decide +kernel)
theorem ws28 : Cond.selects "LinearHistoriesModel" yMo_isBefore yMo_isBefore ∈ TB := tb_s 28 (by decide +kernel) (by decide +kernel)
theorem ws29 : Cond.selects "LinearHistoriesModel" yMo_isBack yMo_isBack ∈ TB := tb_s 29 (by decide +kernel) (by decide +kernel)
theorem ws30 : Cond.selects "LinearHistoriesModel" yMo_doIt yMo_doIt ∈ TB := tb_s 30 (by decide +kernel) (by decide +kernel)
theorem ws31 : Cond.selects "LinearHistoriesModel" yMo_doRegister yMo_doRegister ∈ TB := tb_s 31 (by decide +kernel) (by decide +kernel)
theorem ws32 : Cond.selects "LinearHistoriesModel" yMo_doSet yMo_doSet ∈ TB := tb_s 32 (by decide +kernel) (by decide +kernel)
theorem ws33 : Cond.selects "LinearHistoriesModel" yMo_likeFirst yMo_likeFirst ∈ TB := tb_s 33 (by decide +kernel) (by decide +kernel)
theorem ws34 : Cond.selects "LinearHistoriesModel" yMo_doMap yMo_doMap ∈ TB := tb_s 34 (by decide +kernel) (by decide +kernel)
theorem ws35 : Cond.selects "LinearHistoriesModel" yMo_likeSecond yMo_likeSecond ∈ TB := tb_s 35 (by decide +kernel) (by decide +kernel)
theorem ws36 : Cond.selects "LinearHistoriesModel" yMo_doRow yMo_doRow ∈ TB := tb_s 36 (by decide +kernel) (by decide +kernel)
theorem ws37 : Cond.selects "LinearHistoriesModel" yMo_search yMo_search ∈ TB := tb_s 37 (by decide +kernel) (by decide +kernel)
theorem ws38 : Cond.selects "LinearHistoriesModel" yMo_judgeOf yMo_judgeOf ∈ TB := tb_s 38 (by decide +kernel) (by decide +kernel)
theorem ws39 : Cond.selects "LinearHistoriesModel" yMo_isEnd yMo_isEnd ∈ TB := tb_s 39 (by decide +kernel) (by decide +kernel)
theorem ws40 : Cond.selects "LinearHistoriesModel" yMo_isTouched yMo_isTouched ∈ TB := tb_s 40 (by decide +kernel) (by decide +kernel)
theorem ws41 : Cond.selects "LinearHistoriesModel" yMo_linearity yMo_linearity ∈ TB := tb_s 41 (by decide +kernel) (by decide +kernel)
theorem ws42 : Cond.selects "LinearHistoriesModel" yMo_lay yMo_lay ∈ TB := tb_s 42 (by decide +kernel) (by decide +kernel)
theorem ws43 : Cond.selects "LinearHistoriesModel" yMo_enliven yMo_enliven ∈ TB := tb_s 43 (by decide +kernel) (by decide +kernel)
theorem ws44 : Cond.selects "LinearHistoriesModel" yMo_isWhole yMo_isWhole ∈ TB := tb_s 44 (by decide +kernel) (by decide +kernel)
theorem ws45 : Cond.selects "LinearHistoriesModel" yMo_goesOn yMo_goesOn ∈ TB := tb_s 45 (by decide +kernel) (by decide +kernel)
theorem ws46 : Cond.selects "LinearHistoriesModel" yMo_isDone yMo_isDone ∈ TB := tb_s 46 (by decide +kernel) (by decide +kernel)
theorem inOp : ∀ w ∈ u_ws ROp TOp 8, w ∈ TB := by decide +kernel
theorem inSp : ∀ w ∈ u_ws RSp TSp 8, w ∈ TB := by decide +kernel
theorem inSt : ∀ w ∈ u_ws RSt TSt 3, w ∈ TB := by decide +kernel
theorem inSu : ∀ w ∈ u_ws RSu TSu 18, w ∈ TB := by decide +kernel
theorem inTa : ∀ w ∈ u_ws RTa TTa 5, w ∈ TB := by decide +kernel
theorem inLH : ∀ w ∈ u_ws RLH TLH 15, w ∈ TB := by decide +kernel
theorem inMo : ∀ w ∈ u_ws RMo TMo 35, w ∈ TB := by decide +kernel
end
section
/-! THE MEMORY OF A WALK: what stands at an address (sh: 0 .. 6 an object of that place in vcl; 10 int[], 11 long[], 12 boolean[], 13 Operation[], 14 Subject[], each with its length; 99 nothing that is known), its references, its ints, its longs -/
abbrev MS : Type := Nat → Nat × Nat
abbrev MR : Type := Nat → Nat → Option Nat
abbrev MI : Type := Nat → Nat → Int32
abbrev MJ : Type := Nat → Nat → Int64
def s2 {α : Type} (f : Nat → Nat → α) (a k : Nat) (v : α) : Nat → Nat → α := fun b j => if b = a ∧ j = k then v else f b j
theorem s2_self {α : Type} (f : Nat → Nat → α) (a k : Nat) (v : α) : s2 f a k v a k = v := by simp [s2]
theorem s2_ne {α : Type} {f : Nat → Nat → α} {a k b j : Nat} {v : α} (h : b ≠ a ∨ j ≠ k) : s2 f a k v b j = f b j := by
  unfold s2
  rw [if_neg]
  rintro ⟨h1, h2⟩
  rcases h with h | h
  · exact h h1
  · exact h h2
theorem s2_a {α : Type} {f : Nat → Nat → α} {a k b j : Nat} {v : α} (h : b ≠ a) : s2 f a k v b j = f b j := s2_ne (Or.inl h)
theorem s2_k {α : Type} {f : Nat → Nat → α} {a k b j : Nat} {v : α} (h : j ≠ k) : s2 f a k v b j = f b j := s2_ne (Or.inr h)
theorem s2_row {α : Type} (f : Nat → Nat → α) (a k : Nat) (v : α) : s2 f a k v a = fun j => if j = k then v else f a j := by
  funext j
  simp [s2]
theorem s2_off {α : Type} {f : Nat → Nat → α} {a k b : Nat} {v : α} (h : b ≠ a) : s2 f a k v b = f b := by
  funext j
  exact s2_a h
/-- the kinds of an object's fields: 0 an int, 1 a long, 2 a reference -/
def fkL (ci : Nat) : List Nat := match ci with
  | 0 => [0, 0, 0, 0, 0, 0, 0, 0]
  | 1 => [2, 2, 2, 2, 0, 0, 0, 0]
  | 2 => [1, 0, 0]
  | 3 => [2, 2, 2, 2, 2, 0, 0, 0, 0, 0, 0, 0, 1, 0, 0, 0, 0, 0]
  | 4 => [2, 2, 2, 2, 0]
  | 5 => [2, 2, 2, 2, 2, 2, 2, 2, 2, 0, 0, 0, 0, 0, 1]
  | _ => [0, 0, 2, 2, 2, 0, 2, 2, 2, 2, 2, 2, 2, 2, 2, 0, 2, 2, 2, 2, 2, 2, 2, 2, 2, 2, 2, 1, 0, 0, 0, 0, 2, 2, 2]
def fv (r : MR) (I : MI) (J : MJ) (a t k : Nat) : Value := match t with
  | 0 => .int (I a k)
  | 1 => .long (J a k)
  | _ => va_rf (r a k)
def fvs (ks : List Nat) (r : MR) (I : MI) (J : MJ) (a : Nat) : List Value := (List.range ks.length).map (fun k => fv r I J a (ks.getD k 0) k)
theorem fvs_len (ks : List Nat) (r : MR) (I : MI) (J : MJ) (a : Nat) : (fvs ks r I J a).length = ks.length := by simp [fvs]
theorem fvs_get {ks : List Nat} {k t : Nat} (h : ks[k]? = some t) (r : MR) (I : MI) (J : MJ) (a : Nat) : (fvs ks r I J a)[k]? = some (fv r I J a t k) := by
  have hk : k < ks.length := (List.getElem?_eq_some_iff.mp h).1
  simp only [fvs, List.getElem?_map, List.getElem?_range hk, Option.map_some]
  rw [List.getD_eq_getElem?_getD, h]
  rfl
theorem fvs_set {ks : List Nat} {r r2 : MR} {I I2 : MI} {J J2 : MJ} {a k t : Nat} (h : ks[k]? = some t) (hr : ∀ j, j ≠ k → r2 a j = r a j) (hI : ∀ j, j ≠ k → I2 a j = I a j) (hJ : ∀ j, j ≠ k → J2 a j = J a j) : (fvs ks r I J a).set k (fv r2 I2 J2 a t k) = fvs ks r2 I2 J2 a := by
  have hk : k < ks.length := (List.getElem?_eq_some_iff.mp h).1
  apply List.ext_getElem?
  intro j
  by_cases hj : j = k
  · subst hj
    rw [List.getElem?_set_self (by rw [fvs_len]; exact hk), fvs_get h]
  · rw [List.getElem?_set_ne (Ne.symm hj)]
    by_cases hl : j < ks.length
    · have he : ks[j]? = some ks[j] := List.getElem?_eq_getElem hl
      rw [fvs_get he, fvs_get he]
      have e1 := hr j hj
      have e2 := hI j hj
      have e3 := hJ j hj
      unfold fv
      split
      · rw [e2]
      · rw [e3]
      · rw [e1]
    · rw [List.getElem?_eq_none (by rw [fvs_len]; omega), List.getElem?_eq_none (by rw [fvs_len]; omega)]
theorem fvs_congr {ks : List Nat} {r r2 : MR} {I I2 : MI} {J J2 : MJ} {a : Nat} (hr : r2 a = r a) (hI : I2 a = I a) (hJ : J2 a = J a) : fvs ks r2 I2 J2 a = fvs ks r I J a := by
  unfold fvs fv
  rw [hr, hI, hJ]
def cE (D : va_G) (sh : MS) (r : MR) (I : MI) (J : MJ) (a : Nat) : va_E := match (sh a).1 with
  | 10 => .inl (D.1 100, (sh a).2, .inl (I a))
  | 11 => .inl (D.1 101, (sh a).2, .inr (.inl (J a)))
  | 12 => .inl (D.1 102, (sh a).2, .inl (I a))
  | 13 => .inl (D.1 103, (sh a).2, .inr (.inr (.inr (.inr (r a)))))
  | 14 => .inl (D.1 104, (sh a).2, .inr (.inr (.inr (.inr (r a)))))
  | ci => .inr (ci, fvs (fkL ci) r I J a)
theorem cE_i {D : va_G} {sh : MS} {r : MR} {I : MI} {J : MJ} {a n : Nat} (h : sh a = (10, n)) : cE D sh r I J a = .inl (D.1 100, n, .inl (I a)) := by simp [cE, h]
theorem cE_l {D : va_G} {sh : MS} {r : MR} {I : MI} {J : MJ} {a n : Nat} (h : sh a = (11, n)) : cE D sh r I J a = .inl (D.1 101, n, .inr (.inl (J a))) := by simp [cE, h]
theorem cE_z {D : va_G} {sh : MS} {r : MR} {I : MI} {J : MJ} {a n : Nat} (h : sh a = (12, n)) : cE D sh r I J a = .inl (D.1 102, n, .inl (I a)) := by simp [cE, h]
theorem cE_p {D : va_G} {sh : MS} {r : MR} {I : MI} {J : MJ} {a n : Nat} (h : sh a = (13, n)) : cE D sh r I J a = .inl (D.1 103, n, .inr (.inr (.inr (.inr (r a))))) := by simp [cE, h]
theorem cE_u {D : va_G} {sh : MS} {r : MR} {I : MI} {J : MJ} {a n : Nat} (h : sh a = (14, n)) : cE D sh r I J a = .inl (D.1 104, n, .inr (.inr (.inr (.inr (r a))))) := by simp [cE, h]
theorem cE_o {D : va_G} {sh : MS} {r : MR} {I : MI} {J : MJ} {a ci n : Nat} (h : sh a = (ci, n)) (hc : ci < 10) : cE D sh r I J a = .inr (ci, fvs (fkL ci) r I J a) := by
  unfold cE
  rw [h]
  match ci, hc with
  | 0, _ => rfl
  | 1, _ => rfl
  | 2, _ => rfl
  | 3, _ => rfl
  | 4, _ => rfl
  | 5, _ => rfl
  | 6, _ => rfl
  | 7, _ => rfl
  | 8, _ => rfl
  | 9, _ => rfl
theorem cE_congr {D : va_G} {sh sh2 : MS} {r r2 : MR} {I I2 : MI} {J J2 : MJ} {a : Nat} (hs : sh2 a = sh a) (hr : r2 a = r a) (hI : I2 a = I a) (hJ : J2 a = J a) : cE D sh2 r2 I2 J2 a = cE D sh r I J a := by
  unfold cE
  rw [hs, hr, hI, hJ]
  split <;> first | rfl | rw [fvs_congr hr hI hJ]
def Wo (D : va_G) (sh : MS) (r : MR) (I : MI) (J : MJ) (H : Heap) : Prop := ∀ a : Nat, (sh a).1 ≠ 99 → va_at D vcl (a, cE D sh r I J a) H
theorem Wo.at {D : va_G} {sh : MS} {r : MR} {I : MI} {J : MJ} {H : Heap} (h : Wo D sh r I J H) {a : Nat} (ha : (sh a).1 ≠ 99) : va_at D vcl (a, cE D sh r I J a) H := h a ha
/-- one cell changes -/
theorem Wo.set {D : va_G} {sh : MS} {r r2 : MR} {I I2 : MI} {J J2 : MJ} {H H1 : Heap} (h : Wo D sh r I J H) {a : Nat} (he : va_at D vcl (a, cE D sh r2 I2 J2 a) H1) (hr : ∀ b, b ≠ a → r2 b = r b) (hI : ∀ b, b ≠ a → I2 b = I b) (hJ : ∀ b, b ≠ a → J2 b = J b) (oq : ∀ q : Nat, q ≠ a → H1[q]? = H[q]?) : Wo D sh r2 I2 J2 H1 := by
  intro b hb
  by_cases hba : b = a
  · subst hba
    exact he
  · rw [cE_congr rfl (hr b hba) (hI b hba) (hJ b hba)]
    exact (h b hb).kept (oq b hba)
theorem Wo.lt {D : va_G} {sh : MS} {r : MR} {I : MI} {J : MJ} {H : Heap} (h : Wo D sh r I J H) {a : Nat} (ha : (sh a).1 ≠ 99) : a < H.size := (h a ha).lt
/-- a cell comes -/
theorem Wo.push {D : va_G} {sh sh2 : MS} {r r2 : MR} {I I2 : MI} {J J2 : MJ} {H H1 : Heap} (h : Wo D sh r I J H) {z : Nat} (hz : H.size = z) (he : va_at D vcl (z, cE D sh2 r2 I2 J2 z) H1) (hs : ∀ b, b ≠ z → sh2 b = sh b) (hr : ∀ b, b ≠ z → r2 b = r b) (hI : ∀ b, b ≠ z → I2 b = I b) (hJ : ∀ b, b ≠ z → J2 b = J b) (oq : ∀ q : Nat, q < z → H1[q]? = H[q]?) : Wo D sh2 r2 I2 J2 H1 := by
  intro b hb
  by_cases hba : b = z
  · subst hba
    exact he
  · have hb2 : (sh b).1 ≠ 99 := by rw [← hs b hba]; exact hb
    rw [cE_congr (hs b hba) (hr b hba) (hI b hba) (hJ b hba)]
    exact (h b hb2).kept (oq b (by rw [← hz]; exact h.lt hb2))
/-! the tables' part of it -/
def ktys (D : va_G) : List (ClassId × FieldType) := [(D.1 100, .int), (D.1 101, .long), (D.1 102, .boolean), (D.1 103, .object "LinearHistories$Operation"), (D.1 104, .object "LinearHistories$Subject")]
def knest : List Cond := [.methodLinkNest "LinearHistories" 31 ySp_init "LinearHistories", .methodLinkNest "LinearHistories$Space" 11 yTa_init "LinearHistories", .methodLinkNest "LinearHistories$Space" 20 ySt_init "LinearHistories", .methodLinkNest "LinearHistories$Subject" 19 ySp_init "LinearHistories", .methodLinkNest "LinearHistories$Subject" 34 yOp_init "LinearHistories"]
def KK (D : va_G) (U : State) : Prop := va_K D vcl (ktys D) U ∧ va_AO "LinearHistories$Operation" U ∧ va_AO "LinearHistories$Subject" U ∧ ∀ w ∈ knest, va_Nw w U
theorem KK.warm {D : va_G} {s U : State} (hW : s.WarmedH U.vm) (h : KK D s) : KK D U := by
  refine ⟨va_K.moved hW.alike h.1, va_AO.moved hW.alike h.2.1, va_AO.moved hW.alike h.2.2.1, fun w hw => ?_⟩
  have h4 := h.2.2.2 w hw
  simp only [knest, List.mem_cons, List.not_mem_nil, or_false] at hw
  rcases hw with rfl | rfl | rfl | rfl | rfl <;> exact va_Nw.warmM hW h4
theorem KK.same {D : va_G} {s U : State} (hv : s.vm = U.vm) (h : KK D s) : KK D U := by
  have ha : s.vm.Alike U.vm := by rw [hv]; exact Vm.Alike.refl _
  refine ⟨va_K.moved ha h.1, va_AO.moved ha h.2.1, va_AO.moved ha h.2.2.1, fun w hw => ?_⟩
  have h4 := h.2.2.2 w hw
  simp only [knest, List.mem_cons, List.not_mem_nil, or_false] at hw
  rcases hw with rfl | rfl | rfl | rfl | rfl <;> exact va_Nw.same rfl hv h4
/-- a class of vcl by its tables -/
def CF (ci : Nat) (C : String) (T : u_T) (N : Nat) (ty : Nat → FieldType) : Prop := vcl[ci]? = some (C, T, N) ∧ (∀ w ∈ u_ws C T N, w ∈ TB) ∧ (∀ k, k < N → parseFieldDescriptor (T k).2.2.1 = some (ty k)) ∧ (∀ a, a < N → ∀ b, b < N → a ≠ b → (T a).2.1 ≠ (T b).2.1) ∧ (fkL ci).length = N ∧ ci < 10
theorem cfOp : CF 0 ROp TOp 8 tyOp := ⟨rfl, inOp, tyOp_ok, nmOp, rfl, by decide⟩
theorem cfSp : CF 1 RSp TSp 8 tySp := ⟨rfl, inSp, tySp_ok, nmSp, rfl, by decide⟩
theorem cfSt : CF 2 RSt TSt 3 tySt := ⟨rfl, inSt, tySt_ok, nmSt, rfl, by decide⟩
theorem cfSu : CF 3 RSu TSu 18 tySu := ⟨rfl, inSu, tySu_ok, nmSu, rfl, by decide⟩
theorem cfTa : CF 4 RTa TTa 5 tyTa := ⟨rfl, inTa, tyTa_ok, nmTa, rfl, by decide⟩
theorem cfLH : CF 5 RLH TLH 15 tyLH := ⟨rfl, inLH, tyLH_ok, nmLH, rfl, by decide⟩
theorem cfMo : CF 6 RMo TMo 35 tyMo := ⟨rfl, inMo, tyMo_ok, nmMo, rfl, by decide⟩
/-! the locals by their places -/
def prs (lv : List (Option Value)) : List (Nat × Value) := (List.range lv.length).filterMap (fun i => (lv[i]?.join).map (fun v => (i, v)))
theorem mem_prs {lv : List (Option Value)} {i : Nat} {v : Value} : (i, v) ∈ prs lv ↔ lv[i]? = some (some v) := by
  unfold prs
  rw [List.mem_filterMap]
  constructor
  · rintro ⟨j, hj, h⟩
    cases hx : lv[j]? with
    | none => rw [hx] at h; cases h
    | some o =>
      cases o with
      | none => rw [hx] at h; cases h
      | some w =>
        rw [hx] at h
        have h2 : (j, w) = (i, v) := Option.some.inj h
        have e1 : j = i := congrArg Prod.fst h2
        have e2 : w = v := congrArg Prod.snd h2
        subst e1; subst e2
        exact hx
  · intro h
    refine ⟨i, List.mem_range.mpr (List.getElem?_eq_some_iff.mp h).1, ?_⟩
    rw [h]
    rfl
def lh (ls : Array Slot) (nL : Nat) (lv : List (Option Value)) : Prop := lv_has ls nL (prs lv)
theorem lh.at {ls : Array Slot} {nL : Nat} {lv : List (Option Value)} (h : lh ls nL lv) {i : Nat} {v : Value} (hi : lv[i]? = some (some v)) : ls[i]? = some (.val v) := h.2.2 (i, v) (mem_prs.mpr hi)
theorem lv_has.mono {ls : Array Slot} {nL : Nat} {l l2 : List (Nat × Value)} (h : lv_has ls nL l) (hs : ∀ q ∈ l2, q ∈ l) : lv_has ls nL l2 := ⟨h.1, h.2.1, fun q hq => h.2.2 q (hs q hq)⟩
/-- no long stands just before the place -/
def ok1 (lv : List (Option Value)) (i : Nat) : Bool := match i with
  | 0 => true
  | j + 1 => match lv[j]? with
    | some (some v) => v.category == 1
    | _ => true
theorem lh.set1 {ls : Array Slot} {nL i : Nat} {lv : List (Option Value)} {v : Value} (h : lv_has ls nL ((i, v) :: (prs lv).filter (fun q => !(q.1 == i) && !(q.1 + 1 == i && q.2.category == 2)))) (hok : ok1 lv i = true) : lh ls nL (lv.set i (some v)) := by
  refine h.mono fun q hq => ?_
  obtain ⟨j, w⟩ := q
  replace hq := mem_prs.mp hq
  by_cases hj : j = i
  · subst hj
    have hl : j < lv.length := by
      have := (List.getElem?_eq_some_iff.mp hq).1
      simpa using this
    rw [List.getElem?_set_self hl] at hq
    have : v = w := Option.some.inj (Option.some.inj hq)
    subst this
    exact List.mem_cons_self
  · rw [List.getElem?_set_ne (Ne.symm hj)] at hq
    refine List.mem_cons_of_mem _ (List.mem_filter.mpr ⟨mem_prs.mpr hq, ?_⟩)
    have h1 : (j == i) = false := by simpa using hj
    rw [h1]
    by_cases hj2 : j + 1 = i
    · subst hj2
      have hok : (match lv[j]? with
        | some (some v) => v.category == 1
        | _ => true) = true := hok
      rw [hq] at hok
      have hc : w.category = 1 := by simpa using hok
      simp [hc]
    · have h2 : (j + 1 == i) = false := by simpa using hj2
      simp [h2]
theorem lh.set2 {ls : Array Slot} {nL i : Nat} {lv : List (Option Value)} {v : Value} (h : lv_has ls nL ((i, v) :: (prs lv).filter (fun q => !(q.1 == i) && (!(q.1 == i + 1) && !(q.1 + 1 == i && q.2.category == 2))))) (hok : ok1 lv i = true) : lh ls nL ((lv.set i (some v)).set (i + 1) none) := by
  refine h.mono fun q hq => ?_
  obtain ⟨j, w⟩ := q
  replace hq := mem_prs.mp hq
  by_cases hj1 : j = i + 1
  · subst hj1
    have hl : i + 1 < (lv.set i (some v)).length := by
      have := (List.getElem?_eq_some_iff.mp hq).1
      simpa using this
    rw [List.getElem?_set_self hl] at hq
    cases hq
  · rw [List.getElem?_set_ne (Ne.symm hj1)] at hq
    by_cases hj : j = i
    · subst hj
      have hl : j < lv.length := by
        have := (List.getElem?_eq_some_iff.mp hq).1
        simpa using this
      rw [List.getElem?_set_self hl] at hq
      have : v = w := Option.some.inj (Option.some.inj hq)
      subst this
      exact List.mem_cons_self
    · rw [List.getElem?_set_ne (Ne.symm hj)] at hq
      refine List.mem_cons_of_mem _ (List.mem_filter.mpr ⟨mem_prs.mpr hq, ?_⟩)
      have h1 : (j == i) = false := by simpa using hj
      have h1' : (j == i + 1) = false := by simpa using hj1
      rw [h1, h1']
      by_cases hj2 : j + 1 = i
      · subst hj2
        have hok : (match lv[j]? with
          | some (some v) => v.category == 1
          | _ => true) = true := hok
        rw [hq] at hok
        have hc : w.category = 1 := by simpa using hok
        simp [hc]
      · have h2 : (j + 1 == i) = false := by simpa using hj2
        simp [h2]
/-- fewer known locals -/
theorem lh.less {ls : Array Slot} {nL : Nat} {lv lv2 : List (Option Value)} (h : lh ls nL lv) (hs : ∀ (i : Nat) (v : Value), lv2[i]? = some (some v) → lv[i]? = some (some v)) : lh ls nL lv2 := h.mono fun q hq => by
  obtain ⟨i, v⟩ := q
  exact mem_prs.mpr (hs i v (mem_prs.mp hq))
end
section
/-! THE JUDGEMENT V: the machine at pc with the locals lv, the stack st, the memory (sh, r, I, J), comes to an end with Q -/
abbrev KX : Type := Program × Launch × Env × Room × State × MethodId × Array Value × List Frame × Method × Code × Nat × va_G × (Nat → Prop) × (State → Prop)
abbrev kp (x : KX) : Program := x.1
abbrev kl (x : KX) : Launch := x.2.1
abbrev ke (x : KX) : Env := x.2.2.1
abbrev kR (x : KX) : Room := x.2.2.2.1
abbrev ks (x : KX) : State := x.2.2.2.2.1
abbrev km (x : KX) : MethodId := x.2.2.2.2.2.1
abbrev kar (x : KX) : Array Value := x.2.2.2.2.2.2.1
abbrev kbe (x : KX) : List Frame := x.2.2.2.2.2.2.2.1
abbrev kme (x : KX) : Method := x.2.2.2.2.2.2.2.2.1
abbrev kc (x : KX) : Code := x.2.2.2.2.2.2.2.2.2.1
abbrev kn (x : KX) : Nat := x.2.2.2.2.2.2.2.2.2.2.1
abbrev kD (x : KX) : va_G := x.2.2.2.2.2.2.2.2.2.2.2.1
abbrev kA (x : KX) : Nat → Prop := x.2.2.2.2.2.2.2.2.2.2.2.2.1
abbrev kQ (x : KX) : State → Prop := x.2.2.2.2.2.2.2.2.2.2.2.2.2
/-- shapes, references, the heap's size -/
abbrev GM : Type := MS × MR × Nat
def V (x : KX) (g : GM) (cells slots : Nat) (I : MI) (J : MJ) (pc : Nat) (lv : List (Option Value)) (st : List Value) : Prop :=
  ∀ (H : Heap) (locs : List Loc) (ls : Array Slot), H.size = g.2.2 → Wo (kD x) g.1 g.2.1 I J H → (∀ a : Nat, (g.1 a).1 ≠ 99 → kA x a) → va_S (kA x) (ks x).heap H locs → lh ls (kn x) lv → W (kp x) (kl x) (ke x) (kR x) (ks x) (km x) (kar x) (kbe x) (kme x) (kc x) H locs cells slots (kQ x) (F0 (km x) pc ls st)
/-- what is fixed of a method's walk: its code, its class, how many locals, its room -/
def Cx (x : KX) (cc : ByteArray) (own : String) (nL : Nat) (rm : Room) : Prop :=
  (kp x).tables.exec = Jvm.exec ∧ (kc x).code = cc ∧ (ks x).vm.findClass own = some (km x).cls ∧ (∀ w ∈ TB, w.before (kar x) (ks x) = true) ∧ KK (kD x) (ks x) ∧ (kc x).maxLocals = nL ∧ kn x = nL ∧ kR x = rm ∧ (kme x).locks = false ∧ (∀ q, (ks x).heap.size ≤ q → kA x q)
section VR
variable {x : KX} {cc : ByteArray} {own : String} {nL : Nat} {rm : Room} {g : GM} {cells slots : Nat} {I : MI} {J : MJ} {pc : Nat} {lv : List (Option Value)} {st : List Value}
theorem Cx.tb (C : Cx x cc own nL rm) {w : Cond} (h : w ∈ TB) : w.before (kar x) (ks x) = true := C.2.2.2.1 w h
theorem V.less {lv2 : List (Option Value)} (k : V x g cells slots I J pc lv2 st) (hs : ∀ (i : Nat) (v : Value), lv2[i]? = some (some v) → lv[i]? = some (some v)) : V x g cells slots I J pc lv st := fun H locs ls a b c d h => k H locs ls a b c d (h.less hs)
theorem V.widen {c2 s3 : Nat} (k : V x g c2 s3 I J pc lv st) (h1 : cells ≤ c2) (h2 : slots ≤ s3) : V x g cells slots I J pc lv st := fun H locs ls a b c d h => W.widen h1 h2 (k H locs ls a b c d h)
theorem v_iconst (C : Cx x cc own nL rm) {n : Int} (v : Int32) (d : decode cc pc = .ok (.iconst n, 1)) (hv : Int32.ofInt n = v) (k : V x g cells slots I J (pc + 1) lv (.int v :: st)) : V x g cells slots I J pc lv (st) := fun H locs ls a1 a2 a3 a4 a5 => lv_iconst C.1 C.2.1 d hv (k H locs ls a1 a2 a3 a4 a5)
theorem v_bipush (C : Cx x cc own nL rm) {n : Int} (v : Int32) (d : decode cc pc = .ok (.bipush n, 2)) (hv : (Int8.ofInt n).toInt32 = v) (k : V x g cells slots I J (pc + 2) lv (.int v :: st)) : V x g cells slots I J pc lv (st) := fun H locs ls a1 a2 a3 a4 a5 => lv_bipush C.1 C.2.1 d hv (k H locs ls a1 a2 a3 a4 a5)
theorem v_sipush (C : Cx x cc own nL rm) {n : Int} (v : Int32) (d : decode cc pc = .ok (.sipush n, 3)) (hv : (Int16.ofInt n).toInt32 = v) (k : V x g cells slots I J (pc + 3) lv (.int v :: st)) : V x g cells slots I J pc lv (st) := fun H locs ls a1 a2 a3 a4 a5 => lv_sipush C.1 C.2.1 d hv (k H locs ls a1 a2 a3 a4 a5)
theorem v_lconst (C : Cx x cc own nL rm) {n : Fin 2} (v : Int64) (d : decode cc pc = .ok (.lconst n, 1)) (hv : Int64.ofNat (n : Nat) = v) (k : V x g cells slots I J (pc + 1) lv (.long v :: st)) : V x g cells slots I J pc lv (st) := fun H locs ls a1 a2 a3 a4 a5 => lv_lconst C.1 C.2.1 d hv (k H locs ls a1 a2 a3 a4 a5)
theorem v_iload_n (C : Cx x cc own nL rm) {q : Fin 4} (i : Nat) {y : Int32} (d : decode cc pc = .ok (.iload_n q, 1)) (hi : (q : Nat) = i) (h : lv[i]? = some (some (.int y))) (k : V x g cells slots I J (pc + 1) lv (.int y :: st)) : V x g cells slots I J pc lv st := fun H locs ls a1 a2 a3 a4 a5 => lv_iload_n C.1 C.2.1 d hi (a5.at h) (k H locs ls a1 a2 a3 a4 a5)
theorem v_iload (C : Cx x cc own nL rm) {i : Nat} {y : Int32} (d : decode cc pc = .ok (.iload i, 2)) (h : lv[i]? = some (some (.int y))) (k : V x g cells slots I J (pc + 2) lv (.int y :: st)) : V x g cells slots I J pc lv st := fun H locs ls a1 a2 a3 a4 a5 => lv_iload C.1 C.2.1 d (a5.at h) (k H locs ls a1 a2 a3 a4 a5)
theorem v_lload_n (C : Cx x cc own nL rm) {q : Fin 4} (i : Nat) {y : Int64} (d : decode cc pc = .ok (.lload_n q, 1)) (hi : (q : Nat) = i) (h : lv[i]? = some (some (.long y))) (k : V x g cells slots I J (pc + 1) lv (.long y :: st)) : V x g cells slots I J pc lv st := fun H locs ls a1 a2 a3 a4 a5 => lv_lload_n C.1 C.2.1 d hi (a5.at h) (k H locs ls a1 a2 a3 a4 a5)
theorem v_lload (C : Cx x cc own nL rm) {i : Nat} {y : Int64} (d : decode cc pc = .ok (.lload i, 2)) (h : lv[i]? = some (some (.long y))) (k : V x g cells slots I J (pc + 2) lv (.long y :: st)) : V x g cells slots I J pc lv st := fun H locs ls a1 a2 a3 a4 a5 => lv_lload C.1 C.2.1 d (a5.at h) (k H locs ls a1 a2 a3 a4 a5)
theorem v_aload_n (C : Cx x cc own nL rm) {q : Fin 4} (i : Nat) {a : Nat} (d : decode cc pc = .ok (.aload_n q, 1)) (hi : (q : Nat) = i) (h : lv[i]? = some (some (.ref a))) (k : V x g cells slots I J (pc + 1) lv (.ref a :: st)) : V x g cells slots I J pc lv st := fun H locs ls a1 a2 a3 a4 a5 => lv_aload_n C.1 C.2.1 d hi (a5.at h) (k H locs ls a1 a2 a3 a4 a5)
theorem v_aload (C : Cx x cc own nL rm) {i : Nat} {a : Nat} (d : decode cc pc = .ok (.aload i, 2)) (h : lv[i]? = some (some (.ref a))) (k : V x g cells slots I J (pc + 2) lv (.ref a :: st)) : V x g cells slots I J pc lv st := fun H locs ls a1 a2 a3 a4 a5 => lv_aload C.1 C.2.1 d (a5.at h) (k H locs ls a1 a2 a3 a4 a5)
theorem v_istore_n (C : Cx x cc own nL rm) {q : Fin 4} (i : Nat) {y : Int32} (d : decode cc pc = .ok (.istore_n q, 1)) (hi : (q : Nat) = i) (hn : i < nL) (hok : ok1 lv i = true) (k : V x g cells slots I J (pc + 1) (lv.set i (some (.int y))) st) : V x g cells slots I J pc lv (.int y :: st) := fun H locs ls a1 a2 a3 a4 a5 => lv_istore_n C.1 C.2.1 d hi a5 (by rw [C.2.2.2.2.2.2.1]; exact hn) rfl (fun ls h => k H locs ls a1 a2 a3 a4 (lh.set1 h hok))
theorem v_istore (C : Cx x cc own nL rm) {i : Nat} {y : Int32} (d : decode cc pc = .ok (.istore i, 2)) (hn : i < nL) (hok : ok1 lv i = true) (k : V x g cells slots I J (pc + 2) (lv.set i (some (.int y))) st) : V x g cells slots I J pc lv (.int y :: st) := fun H locs ls a1 a2 a3 a4 a5 => lv_istore C.1 C.2.1 d a5 (by rw [C.2.2.2.2.2.2.1]; exact hn) rfl (fun ls h => k H locs ls a1 a2 a3 a4 (lh.set1 h hok))
theorem v_astore_n (C : Cx x cc own nL rm) {q : Fin 4} (i : Nat) {y : Nat} (d : decode cc pc = .ok (.astore_n q, 1)) (hi : (q : Nat) = i) (hn : i < nL) (hok : ok1 lv i = true) (k : V x g cells slots I J (pc + 1) (lv.set i (some (.ref y))) st) : V x g cells slots I J pc lv (.ref y :: st) := fun H locs ls a1 a2 a3 a4 a5 => lv_astore_n C.1 C.2.1 d hi a5 (by rw [C.2.2.2.2.2.2.1]; exact hn) rfl (fun ls h => k H locs ls a1 a2 a3 a4 (lh.set1 h hok))
theorem v_astore (C : Cx x cc own nL rm) {i : Nat} {y : Nat} (d : decode cc pc = .ok (.astore i, 2)) (hn : i < nL) (hok : ok1 lv i = true) (k : V x g cells slots I J (pc + 2) (lv.set i (some (.ref y))) st) : V x g cells slots I J pc lv (.ref y :: st) := fun H locs ls a1 a2 a3 a4 a5 => lv_astore C.1 C.2.1 d a5 (by rw [C.2.2.2.2.2.2.1]; exact hn) rfl (fun ls h => k H locs ls a1 a2 a3 a4 (lh.set1 h hok))
theorem v_lstore_n (C : Cx x cc own nL rm) {q : Fin 4} (i : Nat) {y : Int64} (d : decode cc pc = .ok (.lstore_n q, 1)) (hi : (q : Nat) = i) (hn : i + 1 < nL) (hok : ok1 lv i = true) (k : V x g cells slots I J (pc + 1) ((lv.set i (some (.long y))).set (i + 1) none) st) : V x g cells slots I J pc lv (.long y :: st) := fun H locs ls a1 a2 a3 a4 a5 => lv_lstore_n C.1 C.2.1 d hi a5 (by rw [C.2.2.2.2.2.2.1]; exact hn) rfl (fun ls h => k H locs ls a1 a2 a3 a4 (lh.set2 h hok))
theorem v_lstore (C : Cx x cc own nL rm) {i : Nat} {y : Int64} (d : decode cc pc = .ok (.lstore i, 2)) (hn : i + 1 < nL) (hok : ok1 lv i = true) (k : V x g cells slots I J (pc + 2) ((lv.set i (some (.long y))).set (i + 1) none) st) : V x g cells slots I J pc lv (.long y :: st) := fun H locs ls a1 a2 a3 a4 a5 => lv_lstore C.1 C.2.1 d a5 (by rw [C.2.2.2.2.2.2.1]; exact hn) rfl (fun ls h => k H locs ls a1 a2 a3 a4 (lh.set2 h hok))
theorem v_iinc (C : Cx x cc own nL rm) {i : Nat} {n : Int} {y : Int32} (v : Int32) (d : decode cc pc = .ok (.iinc i n, 3)) (h : lv[i]? = some (some (.int y))) (hv : y + Int32.ofInt n = v) (hn : i < nL) (hok : ok1 lv i = true) (k : V x g cells slots I J (pc + 3) (lv.set i (some (.int v))) st) : V x g cells slots I J pc lv st := fun H locs ls a1 a2 a3 a4 a5 => by
  obtain ⟨j, hj⟩ := List.getElem?_of_mem (mem_prs.mpr h)
  exact lv_iinc C.1 C.2.1 d a5 hj hv (by rw [C.2.2.2.2.2.2.1]; exact hn) rfl (fun ls h => k H locs ls a1 a2 a3 a4 (lh.set1 h hok))
theorem v_iadd (C : Cx x cc own nL rm) {a b : Int32} (d : decode cc pc = .ok (.iadd, 1))  (k : V x g cells slots I J (pc + 1) lv (.int (a + b) :: st)) : V x g cells slots I J pc lv (.int b :: .int a :: st) := fun H locs ls a1 a2 a3 a4 a5 => lv_iadd C.1 C.2.1 d (k H locs ls a1 a2 a3 a4 a5)
theorem v_isub (C : Cx x cc own nL rm) {a b : Int32} (d : decode cc pc = .ok (.isub, 1))  (k : V x g cells slots I J (pc + 1) lv (.int (a - b) :: st)) : V x g cells slots I J pc lv (.int b :: .int a :: st) := fun H locs ls a1 a2 a3 a4 a5 => lv_isub C.1 C.2.1 d (k H locs ls a1 a2 a3 a4 a5)
theorem v_imul (C : Cx x cc own nL rm) {a b : Int32} (d : decode cc pc = .ok (.imul, 1))  (k : V x g cells slots I J (pc + 1) lv (.int (a * b) :: st)) : V x g cells slots I J pc lv (.int b :: .int a :: st) := fun H locs ls a1 a2 a3 a4 a5 => lv_imul C.1 C.2.1 d (k H locs ls a1 a2 a3 a4 a5)
theorem v_iand (C : Cx x cc own nL rm) {a b : Int32} (d : decode cc pc = .ok (.iand, 1))  (k : V x g cells slots I J (pc + 1) lv (.int (a &&& b) :: st)) : V x g cells slots I J pc lv (.int b :: .int a :: st) := fun H locs ls a1 a2 a3 a4 a5 => lv_iand C.1 C.2.1 d (k H locs ls a1 a2 a3 a4 a5)
theorem v_ior (C : Cx x cc own nL rm) {a b : Int32} (d : decode cc pc = .ok (.ior, 1))  (k : V x g cells slots I J (pc + 1) lv (.int (a ||| b) :: st)) : V x g cells slots I J pc lv (.int b :: .int a :: st) := fun H locs ls a1 a2 a3 a4 a5 => lv_ior C.1 C.2.1 d (k H locs ls a1 a2 a3 a4 a5)
theorem v_ixor (C : Cx x cc own nL rm) {a b : Int32} (d : decode cc pc = .ok (.ixor, 1))  (k : V x g cells slots I J (pc + 1) lv (.int (a ^^^ b) :: st)) : V x g cells slots I J pc lv (.int b :: .int a :: st) := fun H locs ls a1 a2 a3 a4 a5 => lv_ixor C.1 C.2.1 d (k H locs ls a1 a2 a3 a4 a5)
theorem v_ladd (C : Cx x cc own nL rm) {a b : Int64} (d : decode cc pc = .ok (.ladd, 1))  (k : V x g cells slots I J (pc + 1) lv (.long (a + b) :: st)) : V x g cells slots I J pc lv (.long b :: .long a :: st) := fun H locs ls a1 a2 a3 a4 a5 => lv_ladd C.1 C.2.1 d (k H locs ls a1 a2 a3 a4 a5)
theorem v_lsub (C : Cx x cc own nL rm) {a b : Int64} (d : decode cc pc = .ok (.lsub, 1))  (k : V x g cells slots I J (pc + 1) lv (.long (a - b) :: st)) : V x g cells slots I J pc lv (.long b :: .long a :: st) := fun H locs ls a1 a2 a3 a4 a5 => lv_lsub C.1 C.2.1 d (k H locs ls a1 a2 a3 a4 a5)
theorem v_lmul (C : Cx x cc own nL rm) {a b : Int64} (d : decode cc pc = .ok (.lmul, 1))  (k : V x g cells slots I J (pc + 1) lv (.long (a * b) :: st)) : V x g cells slots I J pc lv (.long b :: .long a :: st) := fun H locs ls a1 a2 a3 a4 a5 => lv_lmul C.1 C.2.1 d (k H locs ls a1 a2 a3 a4 a5)
theorem v_land (C : Cx x cc own nL rm) {a b : Int64} (d : decode cc pc = .ok (.land, 1))  (k : V x g cells slots I J (pc + 1) lv (.long (a &&& b) :: st)) : V x g cells slots I J pc lv (.long b :: .long a :: st) := fun H locs ls a1 a2 a3 a4 a5 => lv_land C.1 C.2.1 d (k H locs ls a1 a2 a3 a4 a5)
theorem v_lor (C : Cx x cc own nL rm) {a b : Int64} (d : decode cc pc = .ok (.lor, 1))  (k : V x g cells slots I J (pc + 1) lv (.long (a ||| b) :: st)) : V x g cells slots I J pc lv (.long b :: .long a :: st) := fun H locs ls a1 a2 a3 a4 a5 => lv_lor C.1 C.2.1 d (k H locs ls a1 a2 a3 a4 a5)
theorem v_lxor (C : Cx x cc own nL rm) {a b : Int64} (d : decode cc pc = .ok (.lxor, 1))  (k : V x g cells slots I J (pc + 1) lv (.long (a ^^^ b) :: st)) : V x g cells slots I J pc lv (.long b :: .long a :: st) := fun H locs ls a1 a2 a3 a4 a5 => lv_lxor C.1 C.2.1 d (k H locs ls a1 a2 a3 a4 a5)
theorem v_ishl (C : Cx x cc own nL rm) {a b : Int32} (d : decode cc pc = .ok (.ishl, 1))  (k : V x g cells slots I J (pc + 1) lv (.int (a <<< (b &&& 31)) :: st)) : V x g cells slots I J pc lv (.int b :: .int a :: st) := fun H locs ls a1 a2 a3 a4 a5 => lv_ishl C.1 C.2.1 d (k H locs ls a1 a2 a3 a4 a5)
theorem v_ishr (C : Cx x cc own nL rm) {a b : Int32} (d : decode cc pc = .ok (.ishr, 1))  (k : V x g cells slots I J (pc + 1) lv (.int (a >>> (b &&& 31)) :: st)) : V x g cells slots I J pc lv (.int b :: .int a :: st) := fun H locs ls a1 a2 a3 a4 a5 => lv_ishr C.1 C.2.1 d (k H locs ls a1 a2 a3 a4 a5)
theorem v_iushr (C : Cx x cc own nL rm) {a b : Int32} (d : decode cc pc = .ok (.iushr, 1))  (k : V x g cells slots I J (pc + 1) lv (.int ((a.toUInt32 >>> (b.toUInt32 &&& Int32.toUInt32 31)).toInt32) :: st)) : V x g cells slots I J pc lv (.int b :: .int a :: st) := fun H locs ls a1 a2 a3 a4 a5 => lv_iushr C.1 C.2.1 d rfl (k H locs ls a1 a2 a3 a4 a5)
theorem v_lushr (C : Cx x cc own nL rm) {a : Int64} {b : Int32} (d : decode cc pc = .ok (.lushr, 1))  (k : V x g cells slots I J (pc + 1) lv (.long ((a.toUInt64 >>> (b.toInt64.toUInt64 &&& Int64.toUInt64 63)).toInt64) :: st)) : V x g cells slots I J pc lv (.int b :: .long a :: st) := fun H locs ls a1 a2 a3 a4 a5 => lv_lushr C.1 C.2.1 d rfl (k H locs ls a1 a2 a3 a4 a5)
theorem v_lshl (C : Cx x cc own nL rm) {a : Int64} {b : Int32} (d : decode cc pc = .ok (.lshl, 1))  (k : V x g cells slots I J (pc + 1) lv (.long (a <<< (b.toInt64 &&& 63)) :: st)) : V x g cells slots I J pc lv (.int b :: .long a :: st) := fun H locs ls a1 a2 a3 a4 a5 => lv_lshl C.1 C.2.1 d rfl (k H locs ls a1 a2 a3 a4 a5)
theorem v_i2l (C : Cx x cc own nL rm) {a : Int32} (d : decode cc pc = .ok (.i2l, 1))  (k : V x g cells slots I J (pc + 1) lv (.long a.toInt64 :: st)) : V x g cells slots I J pc lv (.int a :: st) := fun H locs ls a1 a2 a3 a4 a5 => lv_i2l C.1 C.2.1 d rfl (k H locs ls a1 a2 a3 a4 a5)
theorem v_l2i (C : Cx x cc own nL rm) {a : Int64} (d : decode cc pc = .ok (.l2i, 1))  (k : V x g cells slots I J (pc + 1) lv (.int a.toInt32 :: st)) : V x g cells slots I J pc lv (.long a :: st) := fun H locs ls a1 a2 a3 a4 a5 => lv_l2i C.1 C.2.1 d rfl (k H locs ls a1 a2 a3 a4 a5)
theorem v_dup (C : Cx x cc own nL rm) {v : Value} (d : decode cc pc = .ok (.dup, 1)) (hv : v.category = 1) (k : V x g cells slots I J (pc + 1) lv (v :: v :: st)) : V x g cells slots I J pc lv (v :: st) := fun H locs ls a1 a2 a3 a4 a5 => lv_dup C.1 C.2.1 d hv (k H locs ls a1 a2 a3 a4 a5)
theorem v_pop (C : Cx x cc own nL rm) {v : Value} (d : decode cc pc = .ok (.pop, 1)) (hv : v.category = 1) (k : V x g cells slots I J (pc + 1) lv (st)) : V x g cells slots I J pc lv (v :: st) := fun H locs ls a1 a2 a3 a4 a5 => lv_pop C.1 C.2.1 d hv (k H locs ls a1 a2 a3 a4 a5)
theorem v_dup_x1 (C : Cx x cc own nL rm) {v w : Value} (d : decode cc pc = .ok (.dup_x1, 1)) (hv : v.category = 1) (hw : w.category = 1) (k : V x g cells slots I J (pc + 1) lv (v :: w :: v :: st)) : V x g cells slots I J pc lv (v :: w :: st) := fun H locs ls a1 a2 a3 a4 a5 => lv_dup_x1 C.1 C.2.1 d hv hw (k H locs ls a1 a2 a3 a4 a5)
theorem v_dup_x2 (C : Cx x cc own nL rm) {v w z : Value} (d : decode cc pc = .ok (.dup_x2, 1)) (hv : v.category = 1) (hw : w.category = 1) (hz : z.category = 1) (k : V x g cells slots I J (pc + 1) lv (v :: w :: z :: v :: st)) : V x g cells slots I J pc lv (v :: w :: z :: st) := fun H locs ls a1 a2 a3 a4 a5 => lv_dup_x2 C.1 C.2.1 d hv hw hz (k H locs ls a1 a2 a3 a4 a5)
theorem v_dup2_11 (C : Cx x cc own nL rm) {v w : Value} (d : decode cc pc = .ok (.dup2, 1)) (hv : v.category = 1) (hw : w.category = 1) (k : V x g cells slots I J (pc + 1) lv (v :: w :: v :: w :: st)) : V x g cells slots I J pc lv (v :: w :: st) := fun H locs ls a1 a2 a3 a4 a5 => lv_dup2_11 C.1 C.2.1 d hv hw (k H locs ls a1 a2 a3 a4 a5)
theorem v_dup2_2 (C : Cx x cc own nL rm) {v : Value} (d : decode cc pc = .ok (.dup2, 1)) (hv : v.category = 2) (k : V x g cells slots I J (pc + 1) lv (v :: v :: st)) : V x g cells slots I J pc lv (v :: st) := fun H locs ls a1 a2 a3 a4 a5 => lv_dup2_2 C.1 C.2.1 d hv (k H locs ls a1 a2 a3 a4 a5)
theorem v_goto (C : Cx x cc own nL rm) {off : Int} (tgt : Nat) (d : decode cc pc = .ok (.goto off, 3)) (ht : (pc : Int) + off = (tgt : Int)) (k : V x g cells slots I J tgt lv st) : V x g cells slots I J pc lv st := fun H locs ls a1 a2 a3 a4 a5 => lv_goto C.1 C.2.1 d ht (k H locs ls a1 a2 a3 a4 a5)
theorem v_if_eq (C : Cx x cc own nL rm) {a : Int32} {off : Int} (tgt : Nat) (d : decode cc pc = .ok (.ifCond .eq off, 3)) (ht : (pc : Int) + off = (tgt : Int)) (kt : a = 0 → V x g cells slots I J tgt lv st) (kf : ¬ a = 0 → V x g cells slots I J (pc + 3) lv st) : V x g cells slots I J pc lv (.int a :: st) := fun H locs ls a1 a2 a3 a4 a5 => lv_if_eq C.1 C.2.1 d ht (fun h => kt h H locs ls a1 a2 a3 a4 a5) (fun h => kf h H locs ls a1 a2 a3 a4 a5)
theorem v_if_ne (C : Cx x cc own nL rm) {a : Int32} {off : Int} (tgt : Nat) (d : decode cc pc = .ok (.ifCond .ne off, 3)) (ht : (pc : Int) + off = (tgt : Int)) (kt : ¬ a = 0 → V x g cells slots I J tgt lv st) (kf : a = 0 → V x g cells slots I J (pc + 3) lv st) : V x g cells slots I J pc lv (.int a :: st) := fun H locs ls a1 a2 a3 a4 a5 => lv_if_ne C.1 C.2.1 d ht (fun h => kt h H locs ls a1 a2 a3 a4 a5) (fun h => kf h H locs ls a1 a2 a3 a4 a5)
theorem v_if_lt (C : Cx x cc own nL rm) {a : Int32} {off : Int} (tgt : Nat) (d : decode cc pc = .ok (.ifCond .lt off, 3)) (ht : (pc : Int) + off = (tgt : Int)) (kt : a < 0 → V x g cells slots I J tgt lv st) (kf : ¬ a < 0 → V x g cells slots I J (pc + 3) lv st) : V x g cells slots I J pc lv (.int a :: st) := fun H locs ls a1 a2 a3 a4 a5 => lv_if_lt C.1 C.2.1 d ht (fun h => kt h H locs ls a1 a2 a3 a4 a5) (fun h => kf h H locs ls a1 a2 a3 a4 a5)
theorem v_if_ge (C : Cx x cc own nL rm) {a : Int32} {off : Int} (tgt : Nat) (d : decode cc pc = .ok (.ifCond .ge off, 3)) (ht : (pc : Int) + off = (tgt : Int)) (kt : 0 ≤ a → V x g cells slots I J tgt lv st) (kf : ¬ 0 ≤ a → V x g cells slots I J (pc + 3) lv st) : V x g cells slots I J pc lv (.int a :: st) := fun H locs ls a1 a2 a3 a4 a5 => lv_if_ge C.1 C.2.1 d ht (fun h => kt h H locs ls a1 a2 a3 a4 a5) (fun h => kf h H locs ls a1 a2 a3 a4 a5)
theorem v_if_gt (C : Cx x cc own nL rm) {a : Int32} {off : Int} (tgt : Nat) (d : decode cc pc = .ok (.ifCond .gt off, 3)) (ht : (pc : Int) + off = (tgt : Int)) (kt : 0 < a → V x g cells slots I J tgt lv st) (kf : ¬ 0 < a → V x g cells slots I J (pc + 3) lv st) : V x g cells slots I J pc lv (.int a :: st) := fun H locs ls a1 a2 a3 a4 a5 => lv_if_gt C.1 C.2.1 d ht (fun h => kt h H locs ls a1 a2 a3 a4 a5) (fun h => kf h H locs ls a1 a2 a3 a4 a5)
theorem v_if_le (C : Cx x cc own nL rm) {a : Int32} {off : Int} (tgt : Nat) (d : decode cc pc = .ok (.ifCond .le off, 3)) (ht : (pc : Int) + off = (tgt : Int)) (kt : a ≤ 0 → V x g cells slots I J tgt lv st) (kf : ¬ a ≤ 0 → V x g cells slots I J (pc + 3) lv st) : V x g cells slots I J pc lv (.int a :: st) := fun H locs ls a1 a2 a3 a4 a5 => lv_if_le C.1 C.2.1 d ht (fun h => kt h H locs ls a1 a2 a3 a4 a5) (fun h => kf h H locs ls a1 a2 a3 a4 a5)
theorem v_icmp_eq (C : Cx x cc own nL rm) {a b : Int32} {off : Int} (tgt : Nat) (d : decode cc pc = .ok (.if_icmp .eq off, 3)) (ht : (pc : Int) + off = (tgt : Int)) (kt : a = b → V x g cells slots I J tgt lv st) (kf : ¬ a = b → V x g cells slots I J (pc + 3) lv st) : V x g cells slots I J pc lv (.int b :: .int a :: st) := fun H locs ls a1 a2 a3 a4 a5 => lv_icmp_eq C.1 C.2.1 d ht (fun h => kt h H locs ls a1 a2 a3 a4 a5) (fun h => kf h H locs ls a1 a2 a3 a4 a5)
theorem v_icmp_ne (C : Cx x cc own nL rm) {a b : Int32} {off : Int} (tgt : Nat) (d : decode cc pc = .ok (.if_icmp .ne off, 3)) (ht : (pc : Int) + off = (tgt : Int)) (kt : ¬ a = b → V x g cells slots I J tgt lv st) (kf : a = b → V x g cells slots I J (pc + 3) lv st) : V x g cells slots I J pc lv (.int b :: .int a :: st) := fun H locs ls a1 a2 a3 a4 a5 => lv_icmp_ne C.1 C.2.1 d ht (fun h => kt h H locs ls a1 a2 a3 a4 a5) (fun h => kf h H locs ls a1 a2 a3 a4 a5)
theorem v_icmp_lt (C : Cx x cc own nL rm) {a b : Int32} {off : Int} (tgt : Nat) (d : decode cc pc = .ok (.if_icmp .lt off, 3)) (ht : (pc : Int) + off = (tgt : Int)) (kt : a < b → V x g cells slots I J tgt lv st) (kf : ¬ a < b → V x g cells slots I J (pc + 3) lv st) : V x g cells slots I J pc lv (.int b :: .int a :: st) := fun H locs ls a1 a2 a3 a4 a5 => lv_icmp_lt C.1 C.2.1 d ht (fun h => kt h H locs ls a1 a2 a3 a4 a5) (fun h => kf h H locs ls a1 a2 a3 a4 a5)
theorem v_icmp_ge (C : Cx x cc own nL rm) {a b : Int32} {off : Int} (tgt : Nat) (d : decode cc pc = .ok (.if_icmp .ge off, 3)) (ht : (pc : Int) + off = (tgt : Int)) (kt : b ≤ a → V x g cells slots I J tgt lv st) (kf : ¬ b ≤ a → V x g cells slots I J (pc + 3) lv st) : V x g cells slots I J pc lv (.int b :: .int a :: st) := fun H locs ls a1 a2 a3 a4 a5 => lv_icmp_ge C.1 C.2.1 d ht (fun h => kt h H locs ls a1 a2 a3 a4 a5) (fun h => kf h H locs ls a1 a2 a3 a4 a5)
theorem v_icmp_gt (C : Cx x cc own nL rm) {a b : Int32} {off : Int} (tgt : Nat) (d : decode cc pc = .ok (.if_icmp .gt off, 3)) (ht : (pc : Int) + off = (tgt : Int)) (kt : b < a → V x g cells slots I J tgt lv st) (kf : ¬ b < a → V x g cells slots I J (pc + 3) lv st) : V x g cells slots I J pc lv (.int b :: .int a :: st) := fun H locs ls a1 a2 a3 a4 a5 => lv_icmp_gt C.1 C.2.1 d ht (fun h => kt h H locs ls a1 a2 a3 a4 a5) (fun h => kf h H locs ls a1 a2 a3 a4 a5)
theorem v_icmp_le (C : Cx x cc own nL rm) {a b : Int32} {off : Int} (tgt : Nat) (d : decode cc pc = .ok (.if_icmp .le off, 3)) (ht : (pc : Int) + off = (tgt : Int)) (kt : a ≤ b → V x g cells slots I J tgt lv st) (kf : ¬ a ≤ b → V x g cells slots I J (pc + 3) lv st) : V x g cells slots I J pc lv (.int b :: .int a :: st) := fun H locs ls a1 a2 a3 a4 a5 => lv_icmp_le C.1 C.2.1 d ht (fun h => kt h H locs ls a1 a2 a3 a4 a5) (fun h => kf h H locs ls a1 a2 a3 a4 a5)
theorem v_ifnull (C : Cx x cc own nL rm) {off : Int} {a : Nat} (d : decode cc pc = .ok (.ifnull off, 3)) (k : V x g cells slots I J (pc + 3) lv st) : V x g cells slots I J pc lv (.ref a :: st) := fun H locs ls a1 a2 a3 a4 a5 => lv_ifnull C.1 C.2.1 d (k H locs ls a1 a2 a3 a4 a5)
theorem v_ifnonnull (C : Cx x cc own nL rm) {off : Int} {a : Nat} (tgt : Nat) (d : decode cc pc = .ok (.ifnonnull off, 3)) (ht : (pc : Int) + off = (tgt : Int)) (k : V x g cells slots I J tgt lv st) : V x g cells slots I J pc lv (.ref a :: st) := fun H locs ls a1 a2 a3 a4 a5 => lv_ifnonnull C.1 C.2.1 d ht (k H locs ls a1 a2 a3 a4 a5)
theorem v_ifnullN (C : Cx x cc own nL rm) {off : Int} (tgt : Nat) (d : decode cc pc = .ok (.ifnull off, 3)) (ht : (pc : Int) + off = (tgt : Int)) (k : V x g cells slots I J tgt lv st) : V x g cells slots I J pc lv (.null :: st) := fun H locs ls a1 a2 a3 a4 a5 => lv_ifnullN C.1 C.2.1 d ht (k H locs ls a1 a2 a3 a4 a5)
theorem v_ifnonnullN (C : Cx x cc own nL rm) {off : Int} (d : decode cc pc = .ok (.ifnonnull off, 3)) (k : V x g cells slots I J (pc + 3) lv st) : V x g cells slots I J pc lv (.null :: st) := fun H locs ls a1 a2 a3 a4 a5 => lv_ifnonnullN C.1 C.2.1 d (k H locs ls a1 a2 a3 a4 a5)
theorem v_lcmp (C : Cx x cc own nL rm) {a b : Int64} (d : decode cc pc = .ok (.lcmp, 1)) (k : V x g cells slots I J (pc + 1) lv (.int (lg_cmp a b) :: st)) : V x g cells slots I J pc lv (.long b :: .long a :: st) := fun H locs ls a1 a2 a3 a4 a5 => W.lcmp C.1 C.2.1 d (k H locs ls a1 a2 a3 a4 a5)
theorem v_ldc (C : Cx x cc own nL rm) {index : Nat} {v : Int32} (hw : Cond.constant own index v ∈ TB) (d : decode cc pc = .ok (.ldc index, 2)) (k : V x g cells slots I J (pc + 2) lv (.int v :: st)) : V x g cells slots I J pc lv st := fun H locs ls a1 a2 a3 a4 a5 => lv_ldc C.1 C.2.1 C.2.2.1 (C.tb hw) d (k H locs ls a1 a2 a3 a4 a5)
theorem v_ldc2 (C : Cx x cc own nL rm) {index : Nat} {v : Int64} (hw : Cond.constantLong own index v ∈ TB) (d : decode cc pc = .ok (.ldc2_w index, 3)) (k : V x g cells slots I J (pc + 3) lv (.long v :: st)) : V x g cells slots I J pc lv st := fun H locs ls a1 a2 a3 a4 a5 => lv_ldc2 C.1 C.2.1 C.2.2.1 (C.tb hw) d (k H locs ls a1 a2 a3 a4 a5)
theorem v_lookup (C : Cx x cc own nL rm) {dflt : Int} {ps : Array (Int × Int)} {len : Nat} {a : Int32} {off : Int} (tgt : Nat) (d : decode cc pc = .ok (.lookupswitch dflt ps, len)) (hp : (ps.toList.zip (ps.toList.drop 1)).all (fun (a, next) => a.1 < next.1) = true) (ho : Op.lookupswitch.offset ps.toList dflt a.toInt = off) (ht : (pc : Int) + off = (tgt : Int)) (k : V x g cells slots I J tgt lv st) : V x g cells slots I J pc lv (.int a :: st) := fun H locs ls a1 a2 a3 a4 a5 => lv_lookup C.1 C.2.1 d hp ho ht (k H locs ls a1 a2 a3 a4 a5)
theorem v_tableOut (C : Cx x cc own nL rm) {dflt lo hi : Int} {offs : Array Int} {len : Nat} {a : Int32} (tgt : Nat) (d : decode cc pc = .ok (.tableswitch dflt lo hi offs, len)) (h : a.toInt < lo ∨ hi < a.toInt) (ht : (pc : Int) + dflt = (tgt : Int)) (k : V x g cells slots I J tgt lv st) : V x g cells slots I J pc lv (.int a :: st) := fun H locs ls a1 a2 a3 a4 a5 => lv_tableOut C.1 C.2.1 d h ht (k H locs ls a1 a2 a3 a4 a5)
theorem v_tableIn (C : Cx x cc own nL rm) {dflt lo hi : Int} {offs : Array Int} {len : Nat} {a : Int32} {off : Int} (tgt : Nat) (d : decode cc pc = .ok (.tableswitch dflt lo hi offs, len)) (h1 : ¬ a.toInt < lo) (h2 : ¬ hi < a.toInt) (ho : offs[(a.toInt - lo).toNat]? = some off) (ht : (pc : Int) + off = (tgt : Int)) (k : V x g cells slots I J tgt lv st) : V x g cells slots I J pc lv (.int a :: st) := fun H locs ls a1 a2 a3 a4 a5 => lv_tableIn C.1 C.2.1 d h1 h2 ho ht (k H locs ls a1 a2 a3 a4 a5)
/-! fields -/
theorem v_get (C : Cx x cc own nL rm) {ci N n a k t idx : Nat} {Cn : String} {T : u_T} {ty : Nat → FieldType} (F : CF ci Cn T N ty) (hs : g.1 a = (ci, n)) (hk : (fkL ci)[k]? = some t) (hw : Cond.fieldLink own idx (T k).1 (T k).2.1 (T k).2.2.1 ∈ TB) (d : decode cc pc = .ok (.getfield idx, 3)) (kk : V x g cells slots I J (pc + 3) lv (fv g.2.1 I J a t k :: st)) : V x g cells slots I J pc lv (.ref a :: st) := fun H locs ls a1 a2 a3 a4 a5 => by
  obtain ⟨f1, f2, f3, f4, f5, f6⟩ := F
  have hkN : k < N := by rw [← f5]; exact (List.getElem?_eq_some_iff.mp hk).1
  have hE := a2 a (by rw [hs]; show ci ≠ 99; omega)
  rw [cE_o hs f6] at hE
  have hP : va_P (kD x) vcl [(a, .inr (ci, fvs (fkL ci) g.2.1 I J a))] H := fun q y hy => by
    have hq : q = 0 := by
      have := (List.getElem?_eq_some_iff.mp hy).1
      simp at this
      exact this
    subst hq
    cases hy
    exact hE
  exact va_get C.1 C.2.1 C.2.2.2.1 f2 C.2.2.1 C.2.2.2.2.1.1 hP 0 rfl f1 k hkN (C.tb hw) (fun _ h => h) (fvs_get hk _ _ _ _) d (kk H locs ls a1 a2 a3 a4 a5)
theorem v_geti (C : Cx x cc own nL rm) {ci N n a k idx : Nat} {Cn : String} {T : u_T} {ty : Nat → FieldType} (F : CF ci Cn T N ty) (hs : g.1 a = (ci, n)) (hk : (fkL ci)[k]? = some 0) (hw : Cond.fieldLink own idx (T k).1 (T k).2.1 (T k).2.2.1 ∈ TB) (d : decode cc pc = .ok (.getfield idx, 3)) (kk : V x g cells slots I J (pc + 3) lv (.int (I a k) :: st)) : V x g cells slots I J pc lv (.ref a :: st) := v_get C F hs hk hw d kk
theorem v_getl (C : Cx x cc own nL rm) {ci N n a k idx : Nat} {Cn : String} {T : u_T} {ty : Nat → FieldType} (F : CF ci Cn T N ty) (hs : g.1 a = (ci, n)) (hk : (fkL ci)[k]? = some 1) (hw : Cond.fieldLink own idx (T k).1 (T k).2.1 (T k).2.2.1 ∈ TB) (d : decode cc pc = .ok (.getfield idx, 3)) (kk : V x g cells slots I J (pc + 3) lv (.long (J a k) :: st)) : V x g cells slots I J pc lv (.ref a :: st) := v_get C F hs hk hw d kk
theorem v_getr (C : Cx x cc own nL rm) {ci N n a k idx b : Nat} {Cn : String} {T : u_T} {ty : Nat → FieldType} (F : CF ci Cn T N ty) (hs : g.1 a = (ci, n)) (hk : (fkL ci)[k]? = some 2) (hr : g.2.1 a k = some b) (hw : Cond.fieldLink own idx (T k).1 (T k).2.1 (T k).2.2.1 ∈ TB) (d : decode cc pc = .ok (.getfield idx, 3)) (kk : V x g cells slots I J (pc + 3) lv (.ref b :: st)) : V x g cells slots I J pc lv (.ref a :: st) := by
  refine v_get C F hs hk hw d ?_
  show V x g cells slots I J (pc + 3) lv (va_rf (g.2.1 a k) :: st)
  rw [hr]
  exact kk
theorem put_core (C : Cx x cc own nL rm) {ci N n a k t idx : Nat} {Cn : String} {T : u_T} {ty : Nat → FieldType} {v : Value} {I2 : MI} {J2 : MJ} {r2 : MR} (F : CF ci Cn T N ty) (hs : g.1 a = (ci, n)) (hk : (fkL ci)[k]? = some t) (hw : Cond.fieldLink own idx (T k).1 (T k).2.1 (T k).2.2.1 ∈ TB) (hfin : (T k).2.2.2 = false ∨ ((T k).2.2.2 = true ∧ (kme x).name = "<init>" ∧ (T k).1 = own)) (hv : v = fv r2 I2 J2 a t k) (hn : narrow (ty k) v = v) (hfit : fits (ty k) v = true)
    (hr1 : ∀ b, b ≠ a → r2 b = g.2.1 b) (hI1 : ∀ b, b ≠ a → I2 b = I b) (hJ1 : ∀ b, b ≠ a → J2 b = J b) (hr2 : ∀ j, j ≠ k → r2 a j = g.2.1 a j) (hI3 : ∀ j, j ≠ k → I2 a j = I a j) (hJ3 : ∀ j, j ≠ k → J2 a j = J a j)
    (d : decode cc pc = .ok (.putfield idx, 3)) (kk : V x (g.1, r2, g.2.2) cells slots I2 J2 (pc + 3) lv st) : V x g cells slots I J pc lv (v :: .ref a :: st) := fun H locs ls a1 a2 a3 a4 a5 => by
  obtain ⟨f1, f2, f3, f4, f5, f6⟩ := F
  have hkN : k < N := by rw [← f5]; exact (List.getElem?_eq_some_iff.mp hk).1
  have ha99 : (g.1 a).1 ≠ 99 := by rw [hs]; show ci ≠ 99; omega
  have hE := a2 a ha99
  rw [cE_o hs f6] at hE
  have hts := C.2.2.2.1
  have hK := C.2.2.2.2.1.1
  have hap := va_apart (own := own) hts f2 ty f3 f4 hK f1
  obtain ⟨r, h1, cell, q1, q2, q3, q4⟩ := hE
  have hr : r = (Cn, T, N) := Option.some.inj (h1.symm.trans f1)
  subst hr
  obtain ⟨hS, hfc, kC, hkC, hkind⟩ := hK.1 ci _ f1
  obtain ⟨cf, kf, fi, f, hi, hsl⟩ := hS k hkN
  have hlay := hts _ (f2 _ (u_in_lay hkN))
  have hst := (u_facts hfc hkC (u_lays hts f2 hkN) hi).1
  have hd : parseFieldDescriptor (T k).2.2.1 = some (ty k) := f3 k hkN
  have fin : ∀ (H' : Heap), H'[a]? = some (cell.setSlot ((kD x).2 ci k) v) → H'.size = H.size → (∀ q : Nat, q ≠ a → H'[q]? = H[q]?) → W (kp x) (kl x) (ke x) (kR x) (ks x) (km x) (kar x) (kbe x) (kme x) (kc x) H' (locs ++ [⟨a, (kD x).2 ci k⟩]) cells slots (kQ x) (F0 (km x) (pc + 3) ls st) := fun H' e1 e2 e3 => by
    refine kk H' _ ls (by rw [e2]; exact a1) (Wo.set a2 ?_ hr1 hI1 hJ1 e3) a3 (a4.put e2 e3 (a3 a ha99)) a5
    rw [cE_o hs f6, ← fvs_set hk hr2 hI3 hJ3, ← hv]
    exact ⟨_, f1, t_OB.to (V := updV (vp_V (fvs (fkL ci) g.2.1 I J a)) k v) ⟨_, e1, q2, q3, t_set q4 hap hkN v⟩ (fun j _ => vp_updV_set (by rw [fvs_len, f5]; exact hkN) v j)⟩
  rcases hfin with hfin | ⟨hfin, hin2, hdecl⟩
  · unfold u_lay at hlay
    rw [if_neg (by rw [hfin]; decide)] at hlay
    have h6 := u_store hfc hkC hkind hlay hi hd hn hfit
    refine W.putK C.1 C.2.1 (f := f) ⟨C.2.2.1, C.tb hw, ⟨_, _, _, hi⟩, hst⟩ (by rw [q2]; exact h6) q1 q3 (by rw [hsl]; exact k2_hasslot (q4 k hkN)) rfl rfl d fun H' e1 e2 e3 => ?_
    rw [hsl] at e1 ⊢
    exact fin H' e1 e2 e3
  · unfold u_lay at hlay
    rw [if_pos hfin] at hlay
    have hcf : (km x).cls = cf := by
      obtain ⟨_, _, c', _, _, _, -, -, hf', -, -, -, hown2, -⟩ := Cond.laysFinal_spec hlay
      have e1 : c' = cf := by have := hi.symm.trans hf'; simp at this; exact this.1.symm
      rw [hdecl] at hown2
      rw [← e1]; exact Option.some.inj (C.2.2.1.symm.trans hown2)
    have h6 := u_fits hfc hkC hkind (Or.inr hlay) hi hd hn hfit
    refine W.putFinK C.1 C.2.1 C.2.2.1 (C.tb hw) hi hst hcf hin2 (by rw [q2]; exact h6) q1 q3 (by rw [hsl]; exact k2_hasslot (q4 k hkN)) rfl rfl d fun H' e1 e2 e3 => ?_
    rw [hsl] at e1 ⊢
    exact fin H' e1 e2 e3
theorem v_puti (C : Cx x cc own nL rm) {ci N n a k idx : Nat} {Cn : String} {T : u_T} {ty : Nat → FieldType} {v : Int32} (F : CF ci Cn T N ty) (hs : g.1 a = (ci, n)) (hk : (fkL ci)[k]? = some 0) (hw : Cond.fieldLink own idx (T k).1 (T k).2.1 (T k).2.2.1 ∈ TB) (hfin : (T k).2.2.2 = false) (hn : narrow (ty k) (.int v) = .int v) (hfit : fits (ty k) (.int v) = true)
    (d : decode cc pc = .ok (.putfield idx, 3)) (kk : V x g cells slots (s2 I a k v) J (pc + 3) lv st) : V x g cells slots I J pc lv (.int v :: .ref a :: st) :=
  put_core C (r2 := g.2.1) (I2 := s2 I a k v) (J2 := J) F hs hk hw (Or.inl hfin) (by show Value.int v = .int _; rw [s2_self]) hn hfit (fun _ _ => rfl) (fun _ h => s2_off h) (fun _ _ => rfl) (fun _ _ => rfl) (fun _ h => s2_k h) (fun _ _ => rfl) d kk
theorem v_putl (C : Cx x cc own nL rm) {ci N n a k idx : Nat} {Cn : String} {T : u_T} {ty : Nat → FieldType} {v : Int64} (F : CF ci Cn T N ty) (hs : g.1 a = (ci, n)) (hk : (fkL ci)[k]? = some 1) (hw : Cond.fieldLink own idx (T k).1 (T k).2.1 (T k).2.2.1 ∈ TB) (hfin : (T k).2.2.2 = false) (hn : narrow (ty k) (.long v) = .long v) (hfit : fits (ty k) (.long v) = true)
    (d : decode cc pc = .ok (.putfield idx, 3)) (kk : V x g cells slots I (s2 J a k v) (pc + 3) lv st) : V x g cells slots I J pc lv (.long v :: .ref a :: st) :=
  put_core C (r2 := g.2.1) (I2 := I) (J2 := s2 J a k v) F hs hk hw (Or.inl hfin) (by show Value.long v = .long _; rw [s2_self]) hn hfit (fun _ _ => rfl) (fun _ _ => rfl) (fun _ h => s2_off h) (fun _ _ => rfl) (fun _ _ => rfl) (fun _ h => s2_k h) d kk
/-- a final reference, in the constructor -/
theorem v_putr (C : Cx x cc own nL rm) {ci N n a k idx b : Nat} {Cn : String} {T : u_T} {ty : Nat → FieldType} (F : CF ci Cn T N ty) (hs : g.1 a = (ci, n)) (hk : (fkL ci)[k]? = some 2) (hw : Cond.fieldLink own idx (T k).1 (T k).2.1 (T k).2.2.1 ∈ TB) (hfin : (T k).2.2.2 = true) (hin : (kme x).name = "<init>") (hdecl : (T k).1 = own) (hn : narrow (ty k) (.ref b) = .ref b) (hfit : fits (ty k) (.ref b) = true)
    (d : decode cc pc = .ok (.putfield idx, 3)) (kk : V x (g.1, s2 g.2.1 a k (some b), g.2.2) cells slots I J (pc + 3) lv st) : V x g cells slots I J pc lv (.ref b :: .ref a :: st) :=
  put_core C (r2 := s2 g.2.1 a k (some b)) (I2 := I) (J2 := J) F hs hk hw (Or.inr ⟨hfin, hin, hdecl⟩) (by show Value.ref b = va_rf _; rw [s2_self]; rfl) hn hfit (fun _ h => s2_off h) (fun _ _ => rfl) (fun _ _ => rfl) (fun _ h => s2_k h) (fun _ _ => rfl) (fun _ _ => rfl) d kk
/-! arrays -/
theorem one_P {D : va_G} {a : Nat} {E : va_E} {H : Heap} (h : va_at D vcl (a, E) H) : va_P D vcl [(a, E)] H := fun q y hy => by
  have hq : q = 0 := by
    have := (List.getElem?_eq_some_iff.mp hy).1
    simp at this
    exact this
  subst hq
  cases hy
  exact h
theorem sh_live {g : GM} {a c n : Nat} (h : g.1 a = (c, n)) (hc : c < 99) : (g.1 a).1 ≠ 99 := by rw [h]; show c ≠ 99; omega
theorem v_iald (C : Cx x cc own nL rm) {a n : Nat} {i : Int32} (hs : g.1 a = (10, n)) (hin : vp_in i n) (d : decode cc pc = .ok (.iaload, 1)) (kk : V x g cells slots I J (pc + 1) lv (.int (I a i.toNatClampNeg) :: st)) : V x g cells slots I J pc lv (.int i :: .ref a :: st) := fun H locs ls a1 a2 a3 a4 a5 => by
  have hE := a2 a (sh_live hs (by decide))
  rw [cE_i hs] at hE
  exact va_iald C.1 C.2.1 C.2.2.2.2.1.1 (one_P hE) 0 0 rfl rfl hin d (kk H locs ls a1 a2 a3 a4 a5)
theorem v_lald (C : Cx x cc own nL rm) {a n : Nat} {i : Int32} (hs : g.1 a = (11, n)) (hin : vp_in i n) (d : decode cc pc = .ok (.laload, 1)) (kk : V x g cells slots I J (pc + 1) lv (.long (J a i.toNatClampNeg) :: st)) : V x g cells slots I J pc lv (.int i :: .ref a :: st) := fun H locs ls a1 a2 a3 a4 a5 => by
  have hE := a2 a (sh_live hs (by decide))
  rw [cE_l hs] at hE
  exact va_lald C.1 C.2.1 C.2.2.2.2.1.1 (one_P hE) 0 1 rfl rfl hin d (kk H locs ls a1 a2 a3 a4 a5)
theorem v_zald (C : Cx x cc own nL rm) {a n : Nat} {i : Int32} (hs : g.1 a = (12, n)) (hin : vp_in i n) (d : decode cc pc = .ok (.baload, 1)) (kk : V x g cells slots I J (pc + 1) lv (.int (I a i.toNatClampNeg) :: st)) : V x g cells slots I J pc lv (.int i :: .ref a :: st) := fun H locs ls a1 a2 a3 a4 a5 => by
  have hE := a2 a (sh_live hs (by decide))
  rw [cE_z hs] at hE
  exact va_zald C.1 C.2.1 C.2.2.2.2.1.1 (one_P hE) 0 2 rfl rfl hin d (kk H locs ls a1 a2 a3 a4 a5)
theorem v_pald (C : Cx x cc own nL rm) {a n b : Nat} {i : Int32} (hs : g.1 a = (13, n)) (hin : vp_in i n) (hr : g.2.1 a i.toNatClampNeg = some b) (d : decode cc pc = .ok (.aaload, 1)) (kk : V x g cells slots I J (pc + 1) lv (.ref b :: st)) : V x g cells slots I J pc lv (.int i :: .ref a :: st) := fun H locs ls a1 a2 a3 a4 a5 => by
  have hE := a2 a (sh_live hs (by decide))
  rw [cE_p hs] at hE
  refine va_aldq C.1 C.2.1 C.2.2.2.2.1.1 (one_P hE) 0 3 rfl rfl hin d ?_
  rw [hr]
  exact kk H locs ls a1 a2 a3 a4 a5
theorem v_uald (C : Cx x cc own nL rm) {a n : Nat} {i : Int32} (hs : g.1 a = (14, n)) (hin : vp_in i n) (d : decode cc pc = .ok (.aaload, 1)) (kk : V x g cells slots I J (pc + 1) lv (va_rf (g.2.1 a i.toNatClampNeg) :: st)) : V x g cells slots I J pc lv (.int i :: .ref a :: st) := fun H locs ls a1 a2 a3 a4 a5 => by
  have hE := a2 a (sh_live hs (by decide))
  rw [cE_u hs] at hE
  exact va_aldq C.1 C.2.1 C.2.2.2.2.1.1 (one_P hE) 0 4 rfl rfl hin d (kk H locs ls a1 a2 a3 a4 a5)
theorem v_iast (C : Cx x cc own nL rm) {a n : Nat} {i v : Int32} (hs : g.1 a = (10, n)) (hin : vp_in i n) (d : decode cc pc = .ok (.iastore, 1)) (kk : V x g cells slots (s2 I a i.toNatClampNeg v) J (pc + 1) lv st) : V x g cells slots I J pc lv (.int v :: .int i :: .ref a :: st) := fun H locs ls a1 a2 a3 a4 a5 => by
  have hl := sh_live hs (by decide)
  have hE := a2 a hl
  rw [cE_i hs] at hE
  refine W.iast C.1 C.2.1 hE ((C.2.2.2.2.1.1.2 0 _ rfl).1 n (fun j => .int (I a j))) (fun q => by cases q) (by show ¬ (i < 0 ∨ (arrV _ _ _).slots.size ≤ _); rw [arrV_size]; exact hin) rfl rfl d fun H1 e z oq => ?_
  refine kk H1 _ ls (by rw [z]; exact a1) (Wo.set a2 ?_ (fun _ _ => rfl) (fun _ h => s2_off h) (fun _ _ => rfl) oq) a3 (a4.put z oq (a3 a hl)) a5
  rw [cE_i hs]
  show H1[a]? = some (vp_cell _ _)
  rw [e, vp_cell_i, vp_cell_i, arrV_store]
  congr 2
  funext q
  by_cases hq : q = i.toNatClampNeg
  · subst hq
    simp [updV, s2]
  · simp [updV, s2, hq]
theorem v_zast (C : Cx x cc own nL rm) {a n : Nat} {i v : Int32} (hs : g.1 a = (12, n)) (hin : vp_in i n) (hv : v = 0 ∨ v = 1) (d : decode cc pc = .ok (.bastore, 1)) (kk : V x g cells slots (s2 I a i.toNatClampNeg v) J (pc + 1) lv st) : V x g cells slots I J pc lv (.int v :: .int i :: .ref a :: st) := fun H locs ls a1 a2 a3 a4 a5 => by
  have hl := sh_live hs (by decide)
  have hE := a2 a hl
  rw [cE_z hs] at hE
  have hnv : narrow .boolean (.int v) = .int v := by rcases hv with rfl | rfl <;> rfl
  refine W.zast C.1 C.2.1 hE ((C.2.2.2.2.1.1.2 2 _ rfl).1 n (fun j => .int (I a j))) (fun q => by cases q) (by show ¬ (i < 0 ∨ (arrV _ _ _).slots.size ≤ _); rw [arrV_size]; exact hin) rfl rfl d fun H1 e z oq => ?_
  refine kk H1 _ ls (by rw [z]; exact a1) (Wo.set a2 ?_ (fun _ _ => rfl) (fun _ h => s2_off h) (fun _ _ => rfl) oq) a3 (a4.put z oq (a3 a hl)) a5
  rw [cE_z hs]
  show H1[a]? = some (vp_cell _ _)
  rw [e, hnv, vp_cell_i, vp_cell_i, arrV_store]
  congr 2
  funext q
  by_cases hq : q = i.toNatClampNeg
  · subst hq
    simp [updV, s2]
  · simp [updV, s2, hq]
theorem v_last (C : Cx x cc own nL rm) {a n : Nat} {i : Int32} {v : Int64} (hs : g.1 a = (11, n)) (hin : vp_in i n) (d : decode cc pc = .ok (.lastore, 1)) (kk : V x g cells slots I (s2 J a i.toNatClampNeg v) (pc + 1) lv st) : V x g cells slots I J pc lv (.long v :: .int i :: .ref a :: st) := fun H locs ls a1 a2 a3 a4 a5 => by
  have hl := sh_live hs (by decide)
  have hE := a2 a hl
  rw [cE_l hs] at hE
  refine W.last C.1 C.2.1 hE ((C.2.2.2.2.1.1.2 1 _ rfl).1 n (fun j => .long (J a j))) (fun q => by cases q) (by show ¬ (i < 0 ∨ (arrV _ _ _).slots.size ≤ _); rw [arrV_size]; exact hin) rfl rfl d fun H1 e z oq => ?_
  refine kk H1 _ ls (by rw [z]; exact a1) (Wo.set a2 ?_ (fun _ _ => rfl) (fun _ _ => rfl) (fun _ h => s2_off h) oq) a3 (a4.put z oq (a3 a hl)) a5
  rw [cE_l hs]
  show H1[a]? = some (vp_cell _ _)
  rw [e, vp_cell_l, vp_cell_l, arrV_store]
  congr 2
  funext q
  by_cases hq : q = i.toNatClampNeg
  · subst hq
    simp [updV, s2]
  · simp [updV, s2, hq]
theorem ast_core (C : Cx x cc own nL rm) {H : Heap} {a n b ci t N w : Nat} {i : Int32} {Cn : String} {T : u_T} {ty : Nat → FieldType} (F : CF ci Cn T N ty) (hE : va_at (kD x) vcl (a, .inl ((kD x).1 w, n, .inr (.inr (.inr (.inr (g.2.1 a)))))) H) (ht : (ktys (kD x))[t]? = some ((kD x).1 w, .object Cn)) (hl : (g.1 a).1 ≠ 99) (hcE : ∀ r2 : MR, cE (kD x) g.1 r2 I J a = .inl ((kD x).1 w, n, .inr (.inr (.inr (.inr (r2 a)))))) (hin : vp_in i n) (hb : g.1 b = (ci, 0)) (d : decode cc pc = .ok (.aastore, 1)) (kk : V x (g.1, s2 g.2.1 a i.toNatClampNeg (some b), g.2.2) cells slots I J (pc + 1) lv st) {locs : List Loc} {ls : Array Slot} (a1 : H.size = g.2.2) (a2 : Wo (kD x) g.1 g.2.1 I J H) (a3 : ∀ a : Nat, (g.1 a).1 ≠ 99 → kA x a) (a4 : va_S (kA x) (ks x).heap H locs) (a5 : lh ls (kn x) lv) : W (kp x) (kl x) (ke x) (kR x) (ks x) (km x) (kar x) (kbe x) (kme x) (kc x) H locs cells slots (kQ x) (F0 (km x) pc ls (.ref b :: .int i :: .ref a :: st)) := by
  obtain ⟨f1, f2, f3, f4, f5, f6⟩ := F
  have hK := C.2.2.2.2.1.1
  have hlt : i.toNatClampNeg < n := Nat.not_le.mp fun q => hin (Or.inr q)
  have h0 : ¬ i < 0 := fun q => hin (Or.inl q)
  have hB := a2 b (sh_live hb (by omega))
  rw [cE_o hb f6] at hB
  obtain ⟨r', hr', cellV, g1, g2, g3, -⟩ := hB
  have hcls := (hK.1 ci _ f1).2
  obtain ⟨kA1, comp, k1, k2, k3, -⟩ := (hK.2 t _ ht).2
  have hcomp : comp = (kD x).1 ci := Option.some.inj (k3.symm.trans hcls.1)
  subst hcomp
  obtain ⟨kC, hkC, -⟩ := hcls.2
  refine W.aast C.1 C.2.1 hE (fun q h => by cases h) (fun h => by cases h) k1 k2 rfl hkC ⟨h0, by show _ < (arrV _ _ _).slots.size; rw [arrV_size]; exact hlt⟩ g1 (fun q h => by rw [g3] at h; cases h) (by rw [g2]; exact hkC) (by rw [g2]; exact va_assign hcls) rfl rfl d fun H1 e z oq => ?_
  refine kk H1 _ ls (by rw [z]; exact a1) (Wo.set a2 ?_ (fun _ h => s2_off h) (fun _ _ => rfl) (fun _ _ => rfl) oq) a3 (a4.put z oq (a3 a hl)) a5
  rw [hcE]
  show H1[a]? = some (vp_cell _ _)
  rw [e, vp_cell_q, vp_cell_q, arrV_store]
  congr 2
  funext q
  by_cases hq : q = i.toNatClampNeg
  · subst hq
    simp [updV, s2, va_rf]
  · simp [updV, s2, hq]
theorem v_past (C : Cx x cc own nL rm) {a n b : Nat} {i : Int32} (hs : g.1 a = (13, n)) (hin : vp_in i n) (hb : g.1 b = (0, 0)) (d : decode cc pc = .ok (.aastore, 1)) (kk : V x (g.1, s2 g.2.1 a i.toNatClampNeg (some b), g.2.2) cells slots I J (pc + 1) lv st) : V x g cells slots I J pc lv (.ref b :: .int i :: .ref a :: st) := fun H locs ls a1 a2 a3 a4 a5 => by
  have hl := sh_live hs (by decide)
  have hE := a2 a hl
  rw [cE_p hs] at hE
  exact ast_core C cfOp hE (t := 3) rfl hl (fun r2 => cE_p hs) hin hb d kk a1 a2 a3 a4 a5
theorem v_uast (C : Cx x cc own nL rm) {a n b : Nat} {i : Int32} (hs : g.1 a = (14, n)) (hin : vp_in i n) (hb : g.1 b = (3, 0)) (d : decode cc pc = .ok (.aastore, 1)) (kk : V x (g.1, s2 g.2.1 a i.toNatClampNeg (some b), g.2.2) cells slots I J (pc + 1) lv st) : V x g cells slots I J pc lv (.ref b :: .int i :: .ref a :: st) := fun H locs ls a1 a2 a3 a4 a5 => by
  have hl := sh_live hs (by decide)
  have hE := a2 a hl
  rw [cE_u hs] at hE
  exact ast_core C cfSu hE (t := 4) rfl hl (fun r2 => cE_u hs) hin hb d kk a1 a2 a3 a4 a5
theorem v_ialen (C : Cx x cc own nL rm) {a n : Nat} (v : Int32) (hs : g.1 a = (10, n)) (hv : Int32.ofNat n = v) (d : decode cc pc = .ok (.arraylength, 1)) (kk : V x g cells slots I J (pc + 1) lv (.int v :: st)) : V x g cells slots I J pc lv (.ref a :: st) := fun H locs ls a1 a2 a3 a4 a5 => by
  have hE := a2 a (sh_live hs (by decide))
  rw [cE_i hs] at hE
  exact va_alen C.1 C.2.1 C.2.2.2.2.1.1 (one_P hE) 0 0 rfl rfl hv d (kk H locs ls a1 a2 a3 a4 a5)
/-! what is made -/
def g_sh (g : GM) (s : Nat × Nat) : GM := (fun b => if b = g.2.2 then s else g.1 b, fun b => if b = g.2.2 then (fun _ => none) else g.2.1 b, g.2.2 + 1)
def z_m {α : Type} (f : Nat → Nat → α) (a : Nat) (v : α) : Nat → Nat → α := fun b => if b = a then (fun _ => v) else f b
theorem g_live (C : Cx x cc own nL rm) {s : Nat × Nat} {H : Heap} {locs : List Loc} (a3 : ∀ a : Nat, (g.1 a).1 ≠ 99 → kA x a) (a4 : va_S (kA x) (ks x).heap H locs) (a1 : H.size = g.2.2) : ∀ a : Nat, ((g_sh g s).1 a).1 ≠ 99 → kA x a := by
  intro b hb
  by_cases hq : b = g.2.2
  · exact C.2.2.2.2.2.2.2.2.2 b (by rw [hq, ← a1]; exact a4.1)
  · refine a3 b ?_
    have h9 : (g_sh g s).1 b = g.1 b := if_neg hq
    rw [h9] at hb
    exact hb
theorem v_new (C : Cx x cc own nL rm) {ci N idx : Nat} {Cn : String} {T : u_T} {ty : Nat → FieldType} (F : CF ci Cn T N ty) (hd0 : ∀ k, k < N → defaultValue (ty k) = fv (fun _ _ => none) (fun _ _ => 0) (fun _ _ => 0) 0 ((fkL ci).getD k 0) k) (hc : Cond.classLink own idx Cn ∈ TB) (hi : Cond.instantiable Cn N ∈ TB) (hz : Cond.initialized Cn ∈ TB) (hcells : cells + 1 ≤ rm.cells) (hslots : slots + N ≤ rm.slots) (d : decode cc pc = .ok (.new idx, 3))
    (kk : V x (g_sh g (ci, 0)) (cells + 1) (slots + N) (z_m I g.2.2 0) (z_m J g.2.2 0) (pc + 3) lv (.ref g.2.2 :: st)) : V x g cells slots I J pc lv st := fun H locs ls a1 a2 a3 a4 a5 => by
  obtain ⟨f1, f2, f3, f4, f5, f6⟩ := F
  have hKn := C.2.2.2.2.1.1.1 ci _ f1
  have hR := C.2.2.2.2.2.2.2.1
  refine W.newcK C.1 C.2.1 C.2.2.1 (C.tb hc) (C.tb hi) (C.tb hz) rfl d (by rw [hR]; exact hcells) (by rw [hR]; exact hslots) hKn.2.1 a1 fun H1 kC hkC e1 z1 o1 => ?_
  have hz9 : g.2.2 = H.size := a1.symm
  refine kk H1 locs ls z1 ?_ (g_live C a3 a4 a1) ⟨Nat.le_trans a4.1 (by omega), fun y h1 h2 => (o1 y (by rw [hz9]; exact Nat.lt_of_lt_of_le h1 a4.1)).trans (a4.2.1 y h1 h2), a4.2.2⟩ a5
  refine Wo.push a2 a1 ?_ (fun b hb => if_neg hb) (fun b hb => if_neg hb) (fun b hb => if_neg hb) (fun b hb => if_neg hb) o1
  rw [cE_o (n := 0) (ci := ci) (if_pos rfl) f6]
  refine ⟨_, f1, (u_born ty C.2.2.2.1 f2 hKn hkC e1 f3).to fun j hj => ?_⟩
  rw [hd0 j hj]
  have hj2 : (fkL ci)[j]? = some ((fkL ci).getD j 0) := by
    rw [List.getD_eq_getElem?_getD, List.getElem?_eq_getElem (by rw [f5]; exact hj)]
    rfl
  have e9 : ∀ (r : MR) (I : MI) (J : MJ) (a : Nat), (fvs (fkL ci) r I J a).getD j Value.null = fv r I J a ((fkL ci).getD j 0) j := fun r I J a => by
    rw [List.getD_eq_getElem?_getD, fvs_get hj2]
    rfl
  refine Eq.trans ?_ (e9 _ _ _ _).symm
  unfold fv z_m g_sh
  split <;> simp
theorem newa_core (C : Cx x cc own nL rm) {at0 : ArrayType} {ty : FieldType} {t c N : Nat} {n : Int32} (hty : newarray.typeOf at0 = ty) (ht : (ktys (kD x))[t]? = some ((kD x).1 c, ty)) (hra : ∀ cA, va_RA (ks x) cA ty → (ks x).vm.findClass ("[" ++ ty.toString) = some cA) (hw : Cond.arrayClass ty ∈ TB) (hn : ¬ n < 0) (hN : n.toNatClampNeg = N) (hbytes : N * componentBytes ty ≤ 536870912) (hcells : cells + 1 ≤ rm.cells) (hslots : slots + N ≤ rm.slots) {k : Nat} {I2 : MI} {J2 : MJ} (hI : ∀ b, b ≠ g.2.2 → I2 b = I b) (hJ : ∀ b, b ≠ g.2.2 → J2 b = J b) (d : decode cc pc = .ok (.newarray at0, 2))
    (hcell : ∀ H1 : Heap, H1[g.2.2]? = some (arrV ((kD x).1 c) N (fun _ => defaultValue ty)) → va_at (kD x) vcl (g.2.2, cE (kD x) (g_sh g (k, N)).1 (g_sh g (k, N)).2.1 I2 J2 g.2.2) H1)
    (kk : V x (g_sh g (k, N)) (cells + 1) (slots + N) I2 J2 (pc + 2) lv (.ref g.2.2 :: st)) : V x g cells slots I J pc lv (.int n :: st) := fun H locs ls a1 a2 a3 a4 a5 => by
  subst hty
  have hR := C.2.2.2.2.2.2.2.1
  refine va_newaK C.1 C.2.1 (C.tb hw) rfl d rfl hn hN hbytes (by rw [hR]; exact hcells) (by rw [hR]; exact hslots) a1 fun H1 cA e1 z1 o1 hAr hNm => ?_
  have hcA : cA = (kD x).1 c := Option.some.inj (hNm.symm.trans (hra _ (C.2.2.2.2.1.1.2 t _ ht).2))
  subst hcA
  have hz9 : g.2.2 = H.size := a1.symm
  refine kk H1 locs ls z1 ?_ (g_live C a3 a4 a1) ⟨Nat.le_trans a4.1 (by omega), fun y h1 h2 => (o1 y (by rw [hz9]; exact Nat.lt_of_lt_of_le h1 a4.1)).trans (a4.2.1 y h1 h2), a4.2.2⟩ a5
  exact Wo.push a2 a1 (hcell H1 e1) (fun b hb => if_neg hb) (fun b hb => if_neg hb) hI hJ o1
theorem v_newi (C : Cx x cc own nL rm) (N : Nat) {n : Int32} (hn : ¬ n < 0) (hN : n.toNatClampNeg = N) (hbytes : N * componentBytes .int ≤ 536870912) (hcells : cells + 1 ≤ rm.cells) (hslots : slots + N ≤ rm.slots) (d : decode cc pc = .ok (.newarray .int, 2))
    (kk : V x (g_sh g (10, N)) (cells + 1) (slots + N) (z_m I g.2.2 0) J (pc + 2) lv (.ref g.2.2 :: st)) : V x g cells slots I J pc lv (.int n :: st) :=
  newa_core C (ty := .int) (t := 0) (c := 100) rfl rfl (fun cA h => h) w57 hn hN hbytes hcells hslots (fun b hb => if_neg hb) (fun _ _ => rfl) d (fun H1 e1 => by
    rw [cE_i (n := N) (if_pos rfl)]
    show H1[g.2.2]? = some (vp_cell _ _)
    rw [e1, vp_cell_i]
    congr 2
    funext q
    simp [z_m, defaultValue]) kk
theorem v_newl (C : Cx x cc own nL rm) (N : Nat) {n : Int32} (hn : ¬ n < 0) (hN : n.toNatClampNeg = N) (hbytes : N * componentBytes .long ≤ 536870912) (hcells : cells + 1 ≤ rm.cells) (hslots : slots + N ≤ rm.slots) (d : decode cc pc = .ok (.newarray .long, 2))
    (kk : V x (g_sh g (11, N)) (cells + 1) (slots + N) I (z_m J g.2.2 0) (pc + 2) lv (.ref g.2.2 :: st)) : V x g cells slots I J pc lv (.int n :: st) :=
  newa_core C (ty := .long) (t := 1) (c := 101) rfl rfl (fun cA h => h) w58 hn hN hbytes hcells hslots (fun _ _ => rfl) (fun b hb => if_neg hb) d (fun H1 e1 => by
    rw [cE_l (n := N) (if_pos rfl)]
    show H1[g.2.2]? = some (vp_cell _ _)
    rw [e1, vp_cell_l]
    congr 2
    funext q
    simp [z_m, defaultValue]) kk
theorem v_newz (C : Cx x cc own nL rm) (N : Nat) {n : Int32} (hn : ¬ n < 0) (hN : n.toNatClampNeg = N) (hbytes : N * componentBytes .boolean ≤ 536870912) (hcells : cells + 1 ≤ rm.cells) (hslots : slots + N ≤ rm.slots) (d : decode cc pc = .ok (.newarray .boolean, 2))
    (kk : V x (g_sh g (12, N)) (cells + 1) (slots + N) (z_m I g.2.2 0) J (pc + 2) lv (.ref g.2.2 :: st)) : V x g cells slots I J pc lv (.int n :: st) :=
  newa_core C (ty := .boolean) (t := 2) (c := 102) rfl rfl (fun cA h => h) w107 hn hN hbytes hcells hslots (fun b hb => if_neg hb) (fun _ _ => rfl) d (fun H1 e1 => by
    rw [cE_z (n := N) (if_pos rfl)]
    show H1[g.2.2]? = some (vp_cell _ _)
    rw [e1, vp_cell_i]
    congr 2
    funext q
    simp [z_m, defaultValue]) kk
theorem newq_core (C : Cx x cc own nL rm) {Cn : String} {t c N k idx : Nat} {n : Int32} (hao : va_AO Cn (ks x)) (ht : (ktys (kD x))[t]? = some ((kD x).1 c, .object Cn)) (hw : Cond.classLink own idx Cn ∈ TB) (hn : ¬ n < 0) (hN : n.toNatClampNeg = N) (hbytes : N * 4 ≤ 536870912) (hcells : cells + 1 ≤ rm.cells) (hslots : slots + N ≤ rm.slots) (d : decode cc pc = .ok (.anewarray idx, 3))
    (hcell : ∀ H1 : Heap, H1[g.2.2]? = some (arrV ((kD x).1 c) N (fun _ => .null)) → va_at (kD x) vcl (g.2.2, cE (kD x) (g_sh g (k, N)).1 (g_sh g (k, N)).2.1 I J g.2.2) H1)
    (kk : V x (g_sh g (k, N)) (cells + 1) (slots + N) I J (pc + 3) lv (.ref g.2.2 :: st)) : V x g cells slots I J pc lv (.int n :: st) := fun H locs ls a1 a2 a3 a4 a5 => by
  subst hN
  have hR := C.2.2.2.2.2.2.2.1
  refine W.anew C.1 C.2.1 C.2.2.1 (C.tb hw) (va_AO.use hao) rfl d rfl hn hbytes (by rw [hR]; exact hcells) (by rw [hR]; exact hslots) fun cA kA1 comp f1 f2 f3 f4 => ?_
  obtain ⟨kA2, comp2, k1, k2, k3, k4⟩ := (C.2.2.2.2.1.1.2 t _ ht).2
  have hcA : cA = (kD x).1 c := Option.some.inj (f1.symm.trans k4)
  subst hcA
  generalize hH1 : H.push ({ cls := (kD x).1 c, slots := Array.replicate n.toNatClampNeg .null, vm := .none } : Cell) = H1
  have hz9 : g.2.2 = H.size := a1.symm
  have z1 : H1.size = g.2.2 + 1 := by rw [← hH1, Array.size_push, hz9]
  have e1 : H1[g.2.2]? = some (arrV ((kD x).1 c) n.toNatClampNeg (fun _ => .null)) := by rw [hz9, ← hH1, Array.getElem?_push_size, ← arrV_new]
  have o1 : ∀ q : Nat, q < g.2.2 → H1[q]? = H[q]? := fun q hq => by rw [← hH1, Array.getElem?_push, if_neg (by rw [hz9] at hq; exact Nat.ne_of_lt hq)]
  have kk2 := kk H1 locs ls z1 (Wo.push a2 a1 (hcell H1 e1) (fun b hb => if_neg hb) (fun b hb => if_neg hb) (fun _ _ => rfl) (fun _ _ => rfl) o1) (g_live C a3 a4 a1) ⟨Nat.le_trans a4.1 (by omega), fun y h1 h2 => (o1 y (by rw [hz9]; exact Nat.lt_of_lt_of_le h1 a4.1)).trans (a4.2.1 y h1 h2), a4.2.2⟩ a5
  rw [hz9] at kk2
  exact kk2
theorem v_newp (C : Cx x cc own nL rm) (N : Nat) {n : Int32} {idx : Nat} (hw : Cond.classLink own idx "LinearHistories$Operation" ∈ TB) (hn : ¬ n < 0) (hN : n.toNatClampNeg = N) (hbytes : N * 4 ≤ 536870912) (hcells : cells + 1 ≤ rm.cells) (hslots : slots + N ≤ rm.slots) (d : decode cc pc = .ok (.anewarray idx, 3))
    (kk : V x (g_sh g (13, N)) (cells + 1) (slots + N) I J (pc + 3) lv (.ref g.2.2 :: st)) : V x g cells slots I J pc lv (.int n :: st) :=
  newq_core C (t := 3) (c := 103) C.2.2.2.2.1.2.1 rfl hw hn hN hbytes hcells hslots d (fun H1 e1 => by
    rw [cE_p (n := N) (if_pos rfl)]
    show H1[g.2.2]? = some (vp_cell _ _)
    rw [e1, vp_cell_q]
    congr 2
    funext q
    simp [g_sh, va_rf]) kk
theorem v_newu (C : Cx x cc own nL rm) (N : Nat) {n : Int32} {idx : Nat} (hw : Cond.classLink own idx "LinearHistories$Subject" ∈ TB) (hn : ¬ n < 0) (hN : n.toNatClampNeg = N) (hbytes : N * 4 ≤ 536870912) (hcells : cells + 1 ≤ rm.cells) (hslots : slots + N ≤ rm.slots) (d : decode cc pc = .ok (.anewarray idx, 3))
    (kk : V x (g_sh g (14, N)) (cells + 1) (slots + N) I J (pc + 3) lv (.ref g.2.2 :: st)) : V x g cells slots I J pc lv (.int n :: st) :=
  newq_core C (t := 4) (c := 104) C.2.2.2.2.1.2.2.1 rfl hw hn hN hbytes hcells hslots d (fun H1 e1 => by
    rw [cE_u (n := N) (if_pos rfl)]
    show H1[g.2.2]? = some (vp_cell _ _)
    rw [e1, vp_cell_q]
    congr 2
    funext q
    simp [g_sh, va_rf]) kk
end VR
end
section
/-! CONTRACTS over the memory: from (g, I, J) with the arguments av the method comes back; Post says with what, and what the memory is then -/
def AA (g : GM) : Nat → Prop := fun q => (g.1 q).1 ≠ 99 ∨ g.2.2 ≤ q
def QP (D : va_G) (A : Nat → Prop) (Post : Option Value → GM → MI → MJ → Prop) : Array Value → State → Outcome → State → Prop := fun _ st oc t => (∃ (v : Option Value) (g : GM) (I : MI) (J : MJ), oc = .returned v ∧ Post v g I J ∧ t.heap.size = g.2.2 ∧ Wo D g.1 g.2.1 I J t.heap ∧ ∀ a : Nat, (g.1 a).1 ≠ 99 → A a) ∧ va_F A st t
def PP (D : va_G) (g : GM) (I : MI) (J : MJ) (av : List Value) : Array Value → State → Prop := va_Pc av (fun U => U.heap.size = g.2.2 ∧ Wo D g.1 g.2.1 I J U.heap ∧ KK D U)
def Ct (l : Launch) (y : MethodName) (cc : ByteArray) (nL : Nat) (ret : Option FieldType) (rm : Room) (D : va_G) (av : List Value) (g : GM) (I : MI) (J : MJ) (Post : Option Value → GM → MI → MJ → Prop) : Prop :=
  Met l y (.code y cc nL ret :: TB) rm (PP D g I J av) (QP D (AA g) Post) rm.cells rm.slots (AA g)
/-- what a walk knows of its own contract -/
def Mx (x : KX) (l : Launch) (D : va_G) (g : GM) (ret : Option FieldType) (nm : String) (rm : Room) (Post : Option Value → GM → MI → MJ → Prop) : Prop :=
  kl x = l ∧ kD x = D ∧ (kme x).sig.returnType = ret ∧ kA x = AA g ∧ kQ x = MQ (kbe x) (QP D (AA g) Post) (kar x) (ks x) rm.cells rm.slots (AA g) ∧ (kme x).name = nm
theorem PP_blind {D : va_G} {g : GM} {I : MI} {J : MJ} {av : List Value} : FrameBlind (PP D g I J av) := fun a U g2 mk q => by
  obtain ⟨q0, q1, qP, qK⟩ := q
  exact ⟨q0, q1, qP, KK.same (s := U) (U := U.calling g2 mk a) rfl qK⟩
theorem Ct.of {l : Launch} {y : MethodName} {cc : ByteArray} {nL : Nat} {ret : Option FieldType} {rm : Room} {D : va_G} {av : List Value} {g : GM} {I : MI} {J : MJ} {Post : Option Value → GM → MI → MJ → Prop} (hy : plainName y.cls = true) (hlen : (lg_sl av).length ≤ nL) (lv0 : List (Option Value)) (he : prs lv0 = lv_args 0 av)
    (body : ∀ x : KX, Cx x cc y.cls nL rm → Mx x l D g ret y.name rm Post → V x g 0 0 I J 0 lv0 []) : Ct l y cc nL ret rm D av g I J Post := by
  refine Met.ofW (cc := cc) (maxL := nL) (ret := ret) hy rfl ?_
  intro p e s m args below meth c s₁ B hml hv
  obtain ⟨rfl, hsz, hP, hK⟩ := hv
  have hts := atoms_spec (ws := Cond.code y cc nL ret :: TB) B.pre
  have hown : s.vm.findClass y.cls = some m.cls := findClass_of_methodNamed B.named
  have hin := name_of_methodNamed B.named B.method
  have hl := lv_entry av (n := nL) hlen
  rw [lg_entry_eq]
  generalize (lg_sl av ++ List.replicate (nL - (lg_sl av).length) Slot.unset).toArray = ls at hl ⊢
  have hA : ∀ q, s.heap.size ≤ q → AA g q := fun q h => Or.inr (by rw [← hsz]; exact h)
  refine body (p, l, e, rm, s, m, av.toArray, below, meth, c, nL, D, AA g, MQ below (QP D (AA g) Post) av.toArray s rm.cells rm.slots (AA g)) ⟨B.exec, B.bytes, hown, fun w hw => hts w (List.mem_cons_of_mem _ hw), hK, hml, rfl, rfl, B.notSynchronized, hA⟩ ⟨rfl, rfl, B.returns, rfl, rfl, hin.1⟩ s.heap [] ls hsz hP (fun a ha => Or.inl ha) va_S.rf ?_
  show lv_has ls nL (prs lv0)
  rw [he]
  exact hl
section VC
variable {x : KX} {cc : ByteArray} {own : String} {nL : Nat} {rm : Room} {g : GM} {cells slots : Nat} {I : MI} {J : MJ} {pc : Nat} {lv : List (Option Value)} {st : List Value}
variable {l : Launch} {D : va_G} {g0 : GM} {nm : String} {Post : Option Value → GM → MI → MJ → Prop}
theorem ret_q {v : Option Value} {ret : Option FieldType} (M : Mx x l D g0 ret nm rm Post) (hp : Post v g I J) {H : Heap} {locs : List Loc} (a1 : H.size = g.2.2) (a2 : Wo (kD x) g.1 g.2.1 I J H) (a3 : ∀ a : Nat, (g.1 a).1 ≠ 99 → kA x a) (a4 : va_S (kA x) (ks x).heap H locs) (t : State) (ht : t.heap = H) : QP D (AA g0) Post (kar x) (ks x) (.returned v) t := by
  obtain ⟨m1, m2, m3, m4, m5, m6⟩ := M
  rw [m4] at a3 a4
  rw [m2] at a2
  exact ⟨⟨v, g, I, J, rfl, hp, by rw [ht]; exact a1, by rw [ht]; exact a2, a3⟩, a4.F ht⟩
theorem v_iret (C : Cx x cc own nL rm) (M : Mx x l D g0 (some .int) nm rm Post) {v : Int32} (d : decode cc pc = .ok (.ireturn, 1)) (hc : cells ≤ rm.cells) (hs : slots ≤ rm.slots) (hp : Post (some (.int v)) g I J) : V x g cells slots I J pc lv [.int v] := fun H locs ls a1 a2 a3 a4 a5 => by
  refine W.widen hc hs ?_
  rw [M.2.2.2.2.1]
  exact W.iret C.1 C.2.1 M.2.2.1 (fun t ht _ => ret_q M hp a1 a2 a3 a4 t ht) (fun q hq => by rw [← M.2.2.2.1]; exact a4.2.2 q hq) d C.2.2.2.2.2.2.2.2.1
theorem v_zret (C : Cx x cc own nL rm) (M : Mx x l D g0 (some .boolean) nm rm Post) {v : Int32} (hv : v = 0 ∨ v = 1) (d : decode cc pc = .ok (.ireturn, 1)) (hc : cells ≤ rm.cells) (hs : slots ≤ rm.slots) (hp : Post (some (.int v)) g I J) : V x g cells slots I J pc lv [.int v] := fun H locs ls a1 a2 a3 a4 a5 => by
  refine W.widen hc hs ?_
  rw [M.2.2.2.2.1]
  exact W.zret C.1 C.2.1 M.2.2.1 (by rcases hv with rfl | rfl <;> rfl) (fun t ht _ => ret_q M hp a1 a2 a3 a4 t ht) (fun q hq => by rw [← M.2.2.2.1]; exact a4.2.2 q hq) d C.2.2.2.2.2.2.2.2.1
theorem v_lret (C : Cx x cc own nL rm) (M : Mx x l D g0 (some .long) nm rm Post) {v : Int64} (d : decode cc pc = .ok (.lreturn, 1)) (hc : cells ≤ rm.cells) (hs : slots ≤ rm.slots) (hp : Post (some (.long v)) g I J) : V x g cells slots I J pc lv [.long v] := fun H locs ls a1 a2 a3 a4 a5 => by
  refine W.widen hc hs ?_
  rw [M.2.2.2.2.1]
  exact W.lret C.1 C.2.1 M.2.2.1 (fun t ht _ => ret_q M hp a1 a2 a3 a4 t ht) (fun q hq => by rw [← M.2.2.2.1]; exact a4.2.2 q hq) d C.2.2.2.2.2.2.2.2.1
theorem v_aret (C : Cx x cc own nL rm) {cn : String} (M : Mx x l D g0 (some (.object cn)) nm rm Post) {a : Nat} (d : decode cc pc = .ok (.areturn, 1)) (hc : cells ≤ rm.cells) (hs : slots ≤ rm.slots) (hp : Post (some (.ref a)) g I J) : V x g cells slots I J pc lv [.ref a] := fun H locs ls a1 a2 a3 a4 a5 => by
  refine W.widen hc hs ?_
  rw [M.2.2.2.2.1]
  exact W.aret C.1 C.2.1 M.2.2.1 (Or.inl ⟨cn, rfl⟩) (Or.inr ⟨a, rfl⟩) (fun t ht _ => ret_q M hp a1 a2 a3 a4 t ht) (fun q hq => by rw [← M.2.2.2.1]; exact a4.2.2 q hq) d C.2.2.2.2.2.2.2.2.1
theorem v_vret (C : Cx x cc own nL rm) (M : Mx x l D g0 none nm rm Post) (d : decode cc pc = .ok (.return_, 1)) (hc : cells ≤ rm.cells) (hs : slots ≤ rm.slots) (hp : Post none g I J) : V x g cells slots I J pc lv [] := fun H locs ls a1 a2 a3 a4 a5 => by
  refine W.widen hc hs ?_
  rw [M.2.2.2.2.1]
  exact W.vret C.1 C.2.1 M.2.2.1 (fun t ht _ => ret_q M hp a1 a2 a3 a4 t ht) (fun q hq => by rw [← M.2.2.2.1]; exact a4.2.2 q hq) d C.2.2.2.2.2.2.2.2.1
/-! calls -/
/-- a method's words: n its arguments -/
def MW (y : MethodName) (cc2 : ByteArray) (nL2 : Nat) (ret2 : Option FieldType) (n : Nat) : Prop := Cond.code y cc2 nL2 ret2 ∈ TB ∧ Cond.initialized y.cls ∈ TB ∧ (y.cls ≠ "java/lang/invoke/MethodHandle" ∧ y.cls ≠ "java/lang/invoke/VarHandle") ∧ (parseMethodDescriptor y.desc).map (fun d => d.parameters.length) = some n
theorem tb_good {w : Cond} (h : w ∈ TB) : goodWord w = true := (List.mem_filter.mp h).2
theorem ws_ok (C : Cx x cc own nL rm) {w0 : Cond} (h0 : w0 ∈ TB) : ∀ w ∈ w0 :: TB, ∀ (a' : Array Value) (U : State), (ks x).WarmedH U.vm → w.before a' U = true := fun w hw a' U hW => by
  have hm : w ∈ TB := (List.mem_cons.mp hw).elim (fun e => e ▸ h0) id
  exact word_at hW (good_of_word (tb_good hm)) (C.tb hm)
theorem call_b (C : Cx x cc own nL rm) {y : MethodName} {cc2 : ByteArray} {nL2 n idx : Nat} {ret2 : Option FieldType} {rm2 : Room} (hm : MW y cc2 nL2 ret2 n) (hl : Cond.methodLink own idx y ∈ TB) (hf : rm2.frames + 1 ≤ rm.frames) (hlo : 8 + (nL2 + 11) + rm2.locals ≤ rm.locals) : CallB (kR x) (ks x) (kar x) own idx y cc2 nL2 ret2 (Cond.code y cc2 nL2 ret2 :: TB) rm2 rm2.cells rm2.slots n := by
  obtain ⟨m1, m2, m3, m4⟩ := hm
  have hR := C.2.2.2.2.2.2.2.1
  refine ⟨rfl, rfl, by rw [hR]; exact hf, by rw [hR]; exact hlo, ws_ok C m1, List.mem_cons_self, C.tb m1, C.tb m2, m3, fun sig h => ?_, C.tb hl⟩
  rw [h] at m4
  exact (Option.some.inj m4).symm
theorem call_go (C : Cx x cc own nL rm) {Qa : Array Value → State → Outcome → State → Prop} {As : Array Value} {rm2 : Room} {H : Heap} {locs : List Loc} {ls : Array Slot} {stk : List Value} (a1 : H.size = g.2.2) (a3 : ∀ a : Nat, (g.1 a).1 ≠ 99 → kA x a) (a4 : va_S (kA x) (ks x).heap H locs) (a5 : lh ls (kn x) lv)
    (hr : va_Run (kp x) (kl x) (ke x) (kR x) (ks x) (km x) (kar x) (kbe x) (kme x) (kc x) H locs cells slots rm2.cells rm2.slots (F0 (km x) pc ls stk) st (QP (kD x) (AA g) Post As) (AA g))
    (k : ∀ (v : Option Value) (g2 : GM) (I2 : MI) (J2 : MJ), Post v g2 I2 J2 → V x g2 (cells + rm2.cells) (slots + rm2.slots) I2 J2 (pc + 3) lv (v.toList ++ st)) :
    W (kp x) (kl x) (ke x) (kR x) (ks x) (km x) (kar x) (kbe x) (kme x) (kc x) H locs cells slots (kQ x) (F0 (km x) pc ls stk) := by
  intro T hT X
  obtain ⟨v, st₀, t, T', L, h0, X', hL, e1, e2, ⟨⟨v2, g2, I2, J2, hv, hp, hz2, hW2, hA2⟩, hz, hk⟩, st1⟩ := hr T hT X
  cases hv
  rw [h0] at hz hk
  have hAA : ∀ q, AA g q → kA x q := fun q hq => hq.elim (a3 q) (fun h => C.2.2.2.2.2.2.2.2.2 q (Nat.le_trans a4.1 (by rw [a1]; exact h)))
  obtain ⟨t2, b1, b2⟩ := k v g2 I2 J2 hp T'.heap (locs ++ L) ls (by rw [e1]; exact hz2) (by rw [e1]; exact hW2) (fun a ha => hAA a (hA2 a ha)) ⟨Nat.le_trans a4.1 (by rw [e1]; exact hz), fun q h1 h2 => by
      rw [e1, hk q (Nat.lt_of_lt_of_le h1 a4.1) (fun z => h2 (hAA q z))]
      exact a4.2.1 q h1 h2, fun q hq => by
      rcases List.mem_append.mp hq with h | h
      · exact a4.2.2 q h
      · exact hAA _ (hL q h)⟩ a5 T' rfl X'
  exact ⟨t2, st1 t2 b1, b2⟩
theorem PP_at (C : Cx x cc own nL rm) {H : Heap} (a1 : H.size = g.2.2) (a2 : Wo (kD x) g.1 g.2.1 I J H) (av : List Value) : ∀ U : State, U.heap = H → (ks x).WarmedH U.vm → PP (kD x) g I J av av.toArray U := fun U hU hW => ⟨rfl, by rw [hU]; exact a1, by rw [hU]; exact a2, KK.warm hW C.2.2.2.2.1⟩
theorem v_callV (C : Cx x cc own nL rm) {y : MethodName} {cc2 : ByteArray} {nL2 n idx b ci m2 N : Nat} {ret2 : Option FieldType} {rm2 : Room} {As stk : List Value} {Cn : String} {T : u_T} {ty : Nat → FieldType} (hct : Ct (kl x) y cc2 nL2 ret2 rm2 (kD x) (.ref b :: As) g I J Post) (hm : MW y cc2 nL2 ret2 n) (F : CF ci Cn T N ty) (hb : g.1 b = (ci, m2)) (hi : Cond.instanceMethod y ∈ TB) (hse : Cond.selects Cn y y ∈ TB) (hl : Cond.methodLink own idx y ∈ TB) (hn : As.length = n) (hst : stk = As.reverse ++ .ref b :: st) (hW : (st.map fun v => v.category).sum ≤ 8) (hf : rm2.frames + 1 ≤ rm.frames) (hlo : 8 + (nL2 + 11) + rm2.locals ≤ rm.locals) (hc2 : cells + rm2.cells ≤ rm.cells) (hs2 : slots + rm2.slots ≤ rm.slots) (d : decode cc pc = .ok (.invokevirtual idx, 3))
    (k : ∀ (v : Option Value) (g2 : GM) (I2 : MI) (J2 : MJ), Post v g2 I2 J2 → V x g2 (cells + rm2.cells) (slots + rm2.slots) I2 J2 (pc + 3) lv (v.toList ++ st)) : V x g cells slots I J pc lv stk := fun H locs ls a1 a2 a3 a4 a5 => by
  obtain ⟨f1, f2, f3, f4, f5, f6⟩ := F
  have hE := a2 b (sh_live hb (by omega))
  rw [cE_o hb f6] at hE
  have hR := C.2.2.2.2.2.2.2.1
  refine call_go C (Qa := QP (kD x) (AA g) Post) (As := (Value.ref b :: As).toArray) a1 a3 a4 a5 (va_runV (Ts := TB) (As := As) (b := b) (C := Cn) ⟨C.1, C.2.1, C.2.2.2.2.2.1, C.2.2.1, C.2.2.2.1⟩ hct ⟨call_b C hm hl hf hlo, C.tb hi, C.tb hse⟩ ⟨PP_blind, va_recv C.2.2.2.2.1.1 (one_P hE) f1 (q0 := 0) rfl, PP_at C a1 a2 _⟩ rfl hn (a5.1.trans C.2.2.2.2.2.2.1) hst (by simpa using hW) d ⟨by rw [hR]; exact hc2, by rw [hR]; exact hs2⟩) k
theorem v_callS (C : Cx x cc own nL rm) {y : MethodName} {cc2 : ByteArray} {nL2 n idx : Nat} {ret2 : Option FieldType} {rm2 : Room} {As stk : List Value} (hct : Ct (kl x) y cc2 nL2 ret2 rm2 (kD x) As g I J Post) (hm : MW y cc2 nL2 ret2 n) (hi : Cond.static y ∈ TB) (hl : Cond.methodLink own idx y ∈ TB) (hn : As.length = n) (hst : stk = As.reverse ++ st) (hW : (st.map fun v => v.category).sum ≤ 8) (hf : rm2.frames + 1 ≤ rm.frames) (hlo : 8 + (nL2 + 11) + rm2.locals ≤ rm.locals) (hc2 : cells + rm2.cells ≤ rm.cells) (hs2 : slots + rm2.slots ≤ rm.slots) (d : decode cc pc = .ok (.invokestatic idx, 3))
    (k : ∀ (v : Option Value) (g2 : GM) (I2 : MI) (J2 : MJ), Post v g2 I2 J2 → V x g2 (cells + rm2.cells) (slots + rm2.slots) I2 J2 (pc + 3) lv (v.toList ++ st)) : V x g cells slots I J pc lv stk := fun H locs ls a1 a2 a3 a4 a5 => by
  have hR := C.2.2.2.2.2.2.2.1
  refine call_go C (Qa := QP (kD x) (AA g) Post) (As := As.toArray) a1 a3 a4 a5 (va_runS (Ts := TB) (As := As) ⟨C.1, C.2.1, C.2.2.2.2.2.1, C.2.2.1, C.2.2.2.1⟩ hct ⟨call_b C hm hl hf hlo, C.tb hi⟩ ⟨PP_blind, PP_at C a1 a2 _⟩ rfl hn (a5.1.trans C.2.2.2.2.2.2.1) hst (by simpa using hW) d ⟨by rw [hR]; exact hc2, by rw [hR]; exact hs2⟩) k
theorem v_callI (C : Cx x cc own nL rm) {y : MethodName} {cc2 : ByteArray} {nL2 n idx b : Nat} {rm2 : Room} {As stk : List Value} (hct : Ct (kl x) y cc2 nL2 none rm2 (kD x) (.ref b :: As) g I J Post) (hm : MW y cc2 nL2 none n) (hy : y.name = "<init>") (hi : Cond.instanceMethod y ∈ TB) (hl : Cond.methodLink own idx y ∈ TB) (hn : As.length = n) (hst : stk = As.reverse ++ .ref b :: st) (hW : (st.map fun v => v.category).sum ≤ 8) (hf : rm2.frames + 1 ≤ rm.frames) (hlo : 8 + (nL2 + 11) + rm2.locals ≤ rm.locals) (hc2 : cells + rm2.cells ≤ rm.cells) (hs2 : slots + rm2.slots ≤ rm.slots) (d : decode cc pc = .ok (.invokespecial idx, 3))
    (k : ∀ (v : Option Value) (g2 : GM) (I2 : MI) (J2 : MJ), Post v g2 I2 J2 → V x g2 (cells + rm2.cells) (slots + rm2.slots) I2 J2 (pc + 3) lv (v.toList ++ st)) : V x g cells slots I J pc lv stk := fun H locs ls a1 a2 a3 a4 a5 => by
  have hR := C.2.2.2.2.2.2.2.1
  refine call_go C (Qa := QP (kD x) (AA g) Post) (As := (Value.ref b :: As).toArray) a1 a3 a4 a5 (va_runI (Ts := TB) (As := As) (b := b) ⟨C.1, C.2.1, C.2.2.2.2.2.1, C.2.2.1, C.2.2.2.1⟩ hct ⟨call_b C hm hl hf hlo, hy, C.tb hi⟩ ⟨PP_blind, PP_at C a1 a2 _⟩ rfl hn (a5.1.trans C.2.2.2.2.2.2.1) hst (by simpa using hW) d ⟨by rw [hR]; exact hc2, by rw [hR]; exact hs2⟩) k
/-- Object's constructor -/
theorem v_objI (C : Cx x cc own nL rm) {idx a : Nat} (hl : Cond.methodLink own idx Lib.objectInit ∈ TB) (hf : 1 ≤ rm.frames) (hlo : (st.map fun v => v.category).sum + 12 ≤ rm.locals) (d : decode cc pc = .ok (.invokespecial idx, 3)) (k : V x g cells slots I J (pc + 3) lv st) : V x g cells slots I J pc lv (.ref a :: st) := fun H locs ls a1 a2 a3 a4 a5 => by
  have hR := C.2.2.2.2.2.2.2.1
  exact W.objInit C.1 C.2.1 C.2.2.1 (C.tb hl) (C.tb w21) (C.tb w22) rfl (by show ls.size = _; rw [a5.1, C.2.2.2.2.2.1]; exact C.2.2.2.2.2.2.1) rfl d (by rw [hR]; exact hf) (by rw [hR]; simpa using hlo) (k H locs ls a1 a2 a3 a4 a5)
end VC
end

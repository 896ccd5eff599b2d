section
-- ===== PART A: goes FIRST, ahead of the names: the tables' words, and 'selects' of the private methods out of them =====
/-- a private method of a class that the tables say can be made, by its rows of tables_1 -/
def lw_okq (q : MethodName × Nat) : Prop := (q.1.cls ≠ "java/lang/invoke/MethodHandle" ∧ q.1.cls ≠ "java/lang/invoke/VarHandle") ∧ Cond.instantiable q.1.cls q.2 ∈ tables_1 ∧ Cond.privateMethod q.1 ∈ tables_1 ∧ Cond.instanceMethod q.1 ∈ tables_1
theorem lw_p0 : lw_okq (⟨"LinearHistories", "subjectOf", "(I)LLinearHistories$Subject;"⟩, 15) := ⟨⟨by decide +kernel, by decide +kernel⟩, List.mem_of_getElem? (i := 16) (by decide +kernel), List.mem_of_getElem? (i := 170) (by decide +kernel), List.mem_of_getElem? (i := 171) (by decide +kernel)⟩
theorem lw_p1 : lw_okq (⟨"java/lang/Throwable", "fillInStackTrace", "(I)Ljava/lang/Throwable;"⟩, 6) := ⟨⟨by decide +kernel, by decide +kernel⟩, List.mem_of_getElem? (i := 212) (by decide +kernel), List.mem_of_getElem? (i := 210) (by decide +kernel), List.mem_of_getElem? (i := 211) (by decide +kernel)⟩
theorem lw_p2 : lw_okq (⟨"LinearHistories$Table", "chainOf", "(IJ)I"⟩, 5) := ⟨⟨by decide +kernel, by decide +kernel⟩, List.mem_of_getElem? (i := 32) (by decide +kernel), List.mem_of_getElem? (i := 259) (by decide +kernel), List.mem_of_getElem? (i := 260) (by decide +kernel)⟩
theorem lw_p3 : lw_okq (⟨"LinearHistories$Table", "findIn", "(IIJ)I"⟩, 5) := ⟨⟨by decide +kernel, by decide +kernel⟩, List.mem_of_getElem? (i := 32) (by decide +kernel), List.mem_of_getElem? (i := 265) (by decide +kernel), List.mem_of_getElem? (i := 266) (by decide +kernel)⟩
theorem lw_p4 : lw_okq (⟨"LinearHistories$Space", "step", "(LLinearHistories$Subject;II)Z"⟩, 8) := ⟨⟨by decide +kernel, by decide +kernel⟩, List.mem_of_getElem? (i := 26) (by decide +kernel), List.mem_of_getElem? (i := 269) (by decide +kernel), List.mem_of_getElem? (i := 270) (by decide +kernel)⟩
theorem lw_p5 : lw_okq (⟨"LinearHistories$State", "changeRegister", "(LLinearHistories$Operation;)I"⟩, 3) := ⟨⟨by decide +kernel, by decide +kernel⟩, List.mem_of_getElem? (i := 60) (by decide +kernel), List.mem_of_getElem? (i := 282) (by decide +kernel), List.mem_of_getElem? (i := 283) (by decide +kernel)⟩
theorem lw_p6 : lw_okq (⟨"LinearHistories$State", "changeSet", "(LLinearHistories$Operation;)I"⟩, 3) := ⟨⟨by decide +kernel, by decide +kernel⟩, List.mem_of_getElem? (i := 60) (by decide +kernel), List.mem_of_getElem? (i := 286) (by decide +kernel), List.mem_of_getElem? (i := 287) (by decide +kernel)⟩
theorem lw_p7 : lw_okq (⟨"LinearHistories$State", "changeMap", "(LLinearHistories$Operation;[LLinearHistories$Operation;)I"⟩, 3) := ⟨⟨by decide +kernel, by decide +kernel⟩, List.mem_of_getElem? (i := 60) (by decide +kernel), List.mem_of_getElem? (i := 291) (by decide +kernel), List.mem_of_getElem? (i := 292) (by decide +kernel)⟩
theorem lw_p8 : lw_okq (⟨"LinearHistories$State", "changeSequence", "(ILLinearHistories$Operation;[LLinearHistories$Operation;)I"⟩, 3) := ⟨⟨by decide +kernel, by decide +kernel⟩, List.mem_of_getElem? (i := 60) (by decide +kernel), List.mem_of_getElem? (i := 297) (by decide +kernel), List.mem_of_getElem? (i := 298) (by decide +kernel)⟩
theorem lw_p9 : lw_okq (⟨"LinearHistories$State", "placeInHeap", "(I[LLinearHistories$Operation;)I"⟩, 3) := ⟨⟨by decide +kernel, by decide +kernel⟩, List.mem_of_getElem? (i := 60) (by decide +kernel), List.mem_of_getElem? (i := 301) (by decide +kernel), List.mem_of_getElem? (i := 302) (by decide +kernel)⟩
theorem lw_p10 : lw_okq (⟨"LinearHistories$State", "insertAt", "(II)V"⟩, 3) := ⟨⟨by decide +kernel, by decide +kernel⟩, List.mem_of_getElem? (i := 60) (by decide +kernel), List.mem_of_getElem? (i := 305) (by decide +kernel), List.mem_of_getElem? (i := 306) (by decide +kernel)⟩
theorem lw_p11 : lw_okq (⟨"LinearHistories$State", "removeAt", "(I)I"⟩, 3) := ⟨⟨by decide +kernel, by decide +kernel⟩, List.mem_of_getElem? (i := 60) (by decide +kernel), List.mem_of_getElem? (i := 309) (by decide +kernel), List.mem_of_getElem? (i := 310) (by decide +kernel)⟩
theorem lw_p12 : lw_okq (⟨"LinearHistories$Space", "keyBehind", "(II)I"⟩, 8) := ⟨⟨by decide +kernel, by decide +kernel⟩, List.mem_of_getElem? (i := 26) (by decide +kernel), List.mem_of_getElem? (i := 313) (by decide +kernel), List.mem_of_getElem? (i := 314) (by decide +kernel)⟩
theorem lw_p13 : lw_okq (⟨"LinearHistories", "checkProcess", "(I)V"⟩, 15) := ⟨⟨by decide +kernel, by decide +kernel⟩, List.mem_of_getElem? (i := 16) (by decide +kernel), List.mem_of_getElem? (i := 466) (by decide +kernel), List.mem_of_getElem? (i := 467) (by decide +kernel)⟩
theorem lw_p14 : lw_okq (⟨"LinearHistories", "operationOf", "(I)I"⟩, 15) := ⟨⟨by decide +kernel, by decide +kernel⟩, List.mem_of_getElem? (i := 16) (by decide +kernel), List.mem_of_getElem? (i := 515) (by decide +kernel), List.mem_of_getElem? (i := 516) (by decide +kernel)⟩
theorem lw_p15 : lw_okq (⟨"LinearHistories", "learnedSubject", "(I)LLinearHistories$Subject;"⟩, 15) := ⟨⟨by decide +kernel, by decide +kernel⟩, List.mem_of_getElem? (i := 16) (by decide +kernel), List.mem_of_getElem? (i := 538) (by decide +kernel), List.mem_of_getElem? (i := 539) (by decide +kernel)⟩
def lw_privs_1 : List (MethodName × Nat) := [(⟨"LinearHistories", "subjectOf", "(I)LLinearHistories$Subject;"⟩, 15), (⟨"java/lang/Throwable", "fillInStackTrace", "(I)Ljava/lang/Throwable;"⟩, 6), (⟨"LinearHistories$Table", "chainOf", "(IJ)I"⟩, 5), (⟨"LinearHistories$Table", "findIn", "(IIJ)I"⟩, 5), (⟨"LinearHistories$Space", "step", "(LLinearHistories$Subject;II)Z"⟩, 8), (⟨"LinearHistories$State", "changeRegister", "(LLinearHistories$Operation;)I"⟩, 3), (⟨"LinearHistories$State", "changeSet", "(LLinearHistories$Operation;)I"⟩, 3), (⟨"LinearHistories$State", "changeMap", "(LLinearHistories$Operation;[LLinearHistories$Operation;)I"⟩, 3), (⟨"LinearHistories$State", "changeSequence", "(ILLinearHistories$Operation;[LLinearHistories$Operation;)I"⟩, 3), (⟨"LinearHistories$State", "placeInHeap", "(I[LLinearHistories$Operation;)I"⟩, 3), (⟨"LinearHistories$State", "insertAt", "(II)V"⟩, 3), (⟨"LinearHistories$State", "removeAt", "(I)I"⟩, 3), (⟨"LinearHistories$Space", "keyBehind", "(II)I"⟩, 8), (⟨"LinearHistories", "checkProcess", "(I)V"⟩, 15), (⟨"LinearHistories", "operationOf", "(I)I"⟩, 15), (⟨"LinearHistories", "learnedSubject", "(I)LLinearHistories$Subject;"⟩, 15)]
theorem lw_r1 : ∀ q ∈ lw_privs_1, lw_okq q := List.forall_mem_cons.mpr ⟨lw_p0, List.forall_mem_cons.mpr ⟨lw_p1, List.forall_mem_cons.mpr ⟨lw_p2, List.forall_mem_cons.mpr ⟨lw_p3, List.forall_mem_cons.mpr ⟨lw_p4, List.forall_mem_cons.mpr ⟨lw_p5, List.forall_mem_cons.mpr ⟨lw_p6, List.forall_mem_cons.mpr ⟨lw_p7, List.forall_mem_cons.mpr ⟨lw_p8, List.forall_mem_cons.mpr ⟨lw_p9, List.forall_mem_cons.mpr ⟨lw_p10, List.forall_mem_cons.mpr ⟨lw_p11, List.forall_mem_cons.mpr ⟨lw_p12, List.forall_mem_cons.mpr ⟨lw_p13, List.forall_mem_cons.mpr ⟨lw_p14, List.forall_mem_cons.mpr ⟨lw_p15, fun _ h => absurd h List.not_mem_nil⟩⟩⟩⟩⟩⟩⟩⟩⟩⟩⟩⟩⟩⟩⟩⟩
theorem lw_p16 : lw_okq (⟨"LinearHistories", "checkLinear", "(I)V"⟩, 15) := ⟨⟨by decide +kernel, by decide +kernel⟩, List.mem_of_getElem? (i := 16) (by decide +kernel), List.mem_of_getElem? (i := 594) (by decide +kernel), List.mem_of_getElem? (i := 595) (by decide +kernel)⟩
theorem lw_p17 : lw_okq (⟨"LinearHistories", "buildRow", "()V"⟩, 15) := ⟨⟨by decide +kernel, by decide +kernel⟩, List.mem_of_getElem? (i := 16) (by decide +kernel), List.mem_of_getElem? (i := 599) (by decide +kernel), List.mem_of_getElem? (i := 600) (by decide +kernel)⟩
theorem lw_p18 : lw_okq (⟨"LinearHistories", "allAtEnds", "()Z"⟩, 15) := ⟨⟨by decide +kernel, by decide +kernel⟩, List.mem_of_getElem? (i := 16) (by decide +kernel), List.mem_of_getElem? (i := 615) (by decide +kernel), List.mem_of_getElem? (i := 616) (by decide +kernel)⟩
theorem lw_p19 : lw_okq (⟨"LinearHistories", "placeNext", "(J)I"⟩, 15) := ⟨⟨by decide +kernel, by decide +kernel⟩, List.mem_of_getElem? (i := 16) (by decide +kernel), List.mem_of_getElem? (i := 620) (by decide +kernel), List.mem_of_getElem? (i := 621) (by decide +kernel)⟩
theorem lw_p20 : lw_okq (⟨"LinearHistories", "checkPlace", "(I)V"⟩, 15) := ⟨⟨by decide +kernel, by decide +kernel⟩, List.mem_of_getElem? (i := 16) (by decide +kernel), List.mem_of_getElem? (i := 634) (by decide +kernel), List.mem_of_getElem? (i := 635) (by decide +kernel)⟩
theorem lw_p21 : lw_okq (⟨"LinearHistoriesModel", "forget", "()V"⟩, 35) := ⟨⟨by decide +kernel, by decide +kernel⟩, List.mem_of_getElem? (i := 661) (by decide +kernel), List.mem_of_getElem? (i := 667) (by decide +kernel), List.mem_of_getElem? (i := 668) (by decide +kernel)⟩
theorem lw_p22 : lw_okq (⟨"LinearHistoriesModel", "change", "()V"⟩, 35) := ⟨⟨by decide +kernel, by decide +kernel⟩, List.mem_of_getElem? (i := 661) (by decide +kernel), List.mem_of_getElem? (i := 671) (by decide +kernel), List.mem_of_getElem? (i := 672) (by decide +kernel)⟩
theorem lw_p23 : lw_okq (⟨"LinearHistoriesModel", "noObject", "(I)Z"⟩, 35) := ⟨⟨by decide +kernel, by decide +kernel⟩, List.mem_of_getElem? (i := 661) (by decide +kernel), List.mem_of_getElem? (i := 793) (by decide +kernel), List.mem_of_getElem? (i := 794) (by decide +kernel)⟩
theorem lw_p24 : lw_okq (⟨"LinearHistoriesModel", "isIdle", "(I)Z"⟩, 35) := ⟨⟨by decide +kernel, by decide +kernel⟩, List.mem_of_getElem? (i := 661) (by decide +kernel), List.mem_of_getElem? (i := 801) (by decide +kernel), List.mem_of_getElem? (i := 802) (by decide +kernel)⟩
theorem lw_p25 : lw_okq (⟨"LinearHistoriesModel", "look", "(I)V"⟩, 35) := ⟨⟨by decide +kernel, by decide +kernel⟩, List.mem_of_getElem? (i := 661) (by decide +kernel), List.mem_of_getElem? (i := 821) (by decide +kernel), List.mem_of_getElem? (i := 822) (by decide +kernel)⟩
theorem lw_p26 : lw_okq (⟨"LinearHistoriesModel", "gather", "(IIIZ)I"⟩, 35) := ⟨⟨by decide +kernel, by decide +kernel⟩, List.mem_of_getElem? (i := 661) (by decide +kernel), List.mem_of_getElem? (i := 825) (by decide +kernel), List.mem_of_getElem? (i := 826) (by decide +kernel)⟩
theorem lw_p27 : lw_okq (⟨"LinearHistoriesModel", "can", "(IIIIZ)Z"⟩, 35) := ⟨⟨by decide +kernel, by decide +kernel⟩, List.mem_of_getElem? (i := 661) (by decide +kernel), List.mem_of_getElem? (i := 829) (by decide +kernel), List.mem_of_getElem? (i := 830) (by decide +kernel)⟩
theorem lw_p28 : lw_okq (⟨"LinearHistoriesModel", "isBefore", "(IIIZ)Z"⟩, 35) := ⟨⟨by decide +kernel, by decide +kernel⟩, List.mem_of_getElem? (i := 661) (by decide +kernel), List.mem_of_getElem? (i := 833) (by decide +kernel), List.mem_of_getElem? (i := 834) (by decide +kernel)⟩
theorem lw_p29 : lw_okq (⟨"LinearHistoriesModel", "isBack", "(II)Z"⟩, 35) := ⟨⟨by decide +kernel, by decide +kernel⟩, List.mem_of_getElem? (i := 661) (by decide +kernel), List.mem_of_getElem? (i := 837) (by decide +kernel), List.mem_of_getElem? (i := 838) (by decide +kernel)⟩
theorem lw_p30 : lw_okq (⟨"LinearHistoriesModel", "doIt", "(III)V"⟩, 35) := ⟨⟨by decide +kernel, by decide +kernel⟩, List.mem_of_getElem? (i := 661) (by decide +kernel), List.mem_of_getElem? (i := 841) (by decide +kernel), List.mem_of_getElem? (i := 842) (by decide +kernel)⟩
theorem lw_p31 : lw_okq (⟨"LinearHistoriesModel", "doRegister", "(III)V"⟩, 35) := ⟨⟨by decide +kernel, by decide +kernel⟩, List.mem_of_getElem? (i := 661) (by decide +kernel), List.mem_of_getElem? (i := 845) (by decide +kernel), List.mem_of_getElem? (i := 846) (by decide +kernel)⟩
def lw_privs_2 : List (MethodName × Nat) := [(⟨"LinearHistories", "checkLinear", "(I)V"⟩, 15), (⟨"LinearHistories", "buildRow", "()V"⟩, 15), (⟨"LinearHistories", "allAtEnds", "()Z"⟩, 15), (⟨"LinearHistories", "placeNext", "(J)I"⟩, 15), (⟨"LinearHistories", "checkPlace", "(I)V"⟩, 15), (⟨"LinearHistoriesModel", "forget", "()V"⟩, 35), (⟨"LinearHistoriesModel", "change", "()V"⟩, 35), (⟨"LinearHistoriesModel", "noObject", "(I)Z"⟩, 35), (⟨"LinearHistoriesModel", "isIdle", "(I)Z"⟩, 35), (⟨"LinearHistoriesModel", "look", "(I)V"⟩, 35), (⟨"LinearHistoriesModel", "gather", "(IIIZ)I"⟩, 35), (⟨"LinearHistoriesModel", "can", "(IIIIZ)Z"⟩, 35), (⟨"LinearHistoriesModel", "isBefore", "(IIIZ)Z"⟩, 35), (⟨"LinearHistoriesModel", "isBack", "(II)Z"⟩, 35), (⟨"LinearHistoriesModel", "doIt", "(III)V"⟩, 35), (⟨"LinearHistoriesModel", "doRegister", "(III)V"⟩, 35)]
theorem lw_r2 : ∀ q ∈ lw_privs_2, lw_okq q := List.forall_mem_cons.mpr ⟨lw_p16, List.forall_mem_cons.mpr ⟨lw_p17, List.forall_mem_cons.mpr ⟨lw_p18, List.forall_mem_cons.mpr ⟨lw_p19, List.forall_mem_cons.mpr ⟨lw_p20, List.forall_mem_cons.mpr ⟨lw_p21, List.forall_mem_cons.mpr ⟨lw_p22, List.forall_mem_cons.mpr ⟨lw_p23, List.forall_mem_cons.mpr ⟨lw_p24, List.forall_mem_cons.mpr ⟨lw_p25, List.forall_mem_cons.mpr ⟨lw_p26, List.forall_mem_cons.mpr ⟨lw_p27, List.forall_mem_cons.mpr ⟨lw_p28, List.forall_mem_cons.mpr ⟨lw_p29, List.forall_mem_cons.mpr ⟨lw_p30, List.forall_mem_cons.mpr ⟨lw_p31, fun _ h => absurd h List.not_mem_nil⟩⟩⟩⟩⟩⟩⟩⟩⟩⟩⟩⟩⟩⟩⟩⟩
theorem lw_p32 : lw_okq (⟨"LinearHistoriesModel", "doSet", "(III)V"⟩, 35) := ⟨⟨by decide +kernel, by decide +kernel⟩, List.mem_of_getElem? (i := 661) (by decide +kernel), List.mem_of_getElem? (i := 849) (by decide +kernel), List.mem_of_getElem? (i := 850) (by decide +kernel)⟩
theorem lw_p33 : lw_okq (⟨"LinearHistoriesModel", "likeFirst", "(II)I"⟩, 35) := ⟨⟨by decide +kernel, by decide +kernel⟩, List.mem_of_getElem? (i := 661) (by decide +kernel), List.mem_of_getElem? (i := 853) (by decide +kernel), List.mem_of_getElem? (i := 854) (by decide +kernel)⟩
theorem lw_p34 : lw_okq (⟨"LinearHistoriesModel", "doMap", "(III)V"⟩, 35) := ⟨⟨by decide +kernel, by decide +kernel⟩, List.mem_of_getElem? (i := 661) (by decide +kernel), List.mem_of_getElem? (i := 858) (by decide +kernel), List.mem_of_getElem? (i := 859) (by decide +kernel)⟩
theorem lw_p35 : lw_okq (⟨"LinearHistoriesModel", "likeSecond", "(II)I"⟩, 35) := ⟨⟨by decide +kernel, by decide +kernel⟩, List.mem_of_getElem? (i := 661) (by decide +kernel), List.mem_of_getElem? (i := 864) (by decide +kernel), List.mem_of_getElem? (i := 865) (by decide +kernel)⟩
theorem lw_p36 : lw_okq (⟨"LinearHistoriesModel", "doRow", "(III)V"⟩, 35) := ⟨⟨by decide +kernel, by decide +kernel⟩, List.mem_of_getElem? (i := 661) (by decide +kernel), List.mem_of_getElem? (i := 868) (by decide +kernel), List.mem_of_getElem? (i := 869) (by decide +kernel)⟩
theorem lw_p37 : lw_okq (⟨"LinearHistoriesModel", "search", "(III)I"⟩, 35) := ⟨⟨by decide +kernel, by decide +kernel⟩, List.mem_of_getElem? (i := 661) (by decide +kernel), List.mem_of_getElem? (i := 877) (by decide +kernel), List.mem_of_getElem? (i := 878) (by decide +kernel)⟩
theorem lw_p38 : lw_okq (⟨"LinearHistoriesModel", "judgeOf", "(IIII)I"⟩, 35) := ⟨⟨by decide +kernel, by decide +kernel⟩, List.mem_of_getElem? (i := 661) (by decide +kernel), List.mem_of_getElem? (i := 881) (by decide +kernel), List.mem_of_getElem? (i := 882) (by decide +kernel)⟩
theorem lw_p39 : lw_okq (⟨"LinearHistoriesModel", "isEnd", "(III)Z"⟩, 35) := ⟨⟨by decide +kernel, by decide +kernel⟩, List.mem_of_getElem? (i := 661) (by decide +kernel), List.mem_of_getElem? (i := 885) (by decide +kernel), List.mem_of_getElem? (i := 886) (by decide +kernel)⟩
theorem lw_p40 : lw_okq (⟨"LinearHistoriesModel", "isTouched", "(II)Z"⟩, 35) := ⟨⟨by decide +kernel, by decide +kernel⟩, List.mem_of_getElem? (i := 661) (by decide +kernel), List.mem_of_getElem? (i := 910) (by decide +kernel), List.mem_of_getElem? (i := 911) (by decide +kernel)⟩
theorem lw_p41 : lw_okq (⟨"LinearHistoriesModel", "linearity", "()I"⟩, 35) := ⟨⟨by decide +kernel, by decide +kernel⟩, List.mem_of_getElem? (i := 661) (by decide +kernel), List.mem_of_getElem? (i := 918) (by decide +kernel), List.mem_of_getElem? (i := 919) (by decide +kernel)⟩
theorem lw_p42 : lw_okq (⟨"LinearHistoriesModel", "lay", "()Z"⟩, 35) := ⟨⟨by decide +kernel, by decide +kernel⟩, List.mem_of_getElem? (i := 661) (by decide +kernel), List.mem_of_getElem? (i := 926) (by decide +kernel), List.mem_of_getElem? (i := 927) (by decide +kernel)⟩
theorem lw_p43 : lw_okq (⟨"LinearHistoriesModel", "enliven", "(I)V"⟩, 35) := ⟨⟨by decide +kernel, by decide +kernel⟩, List.mem_of_getElem? (i := 661) (by decide +kernel), List.mem_of_getElem? (i := 930) (by decide +kernel), List.mem_of_getElem? (i := 931) (by decide +kernel)⟩
theorem lw_p44 : lw_okq (⟨"LinearHistoriesModel", "isWhole", "()Z"⟩, 35) := ⟨⟨by decide +kernel, by decide +kernel⟩, List.mem_of_getElem? (i := 661) (by decide +kernel), List.mem_of_getElem? (i := 934) (by decide +kernel), List.mem_of_getElem? (i := 935) (by decide +kernel)⟩
theorem lw_p45 : lw_okq (⟨"LinearHistoriesModel", "goesOn", "(I)Z"⟩, 35) := ⟨⟨by decide +kernel, by decide +kernel⟩, List.mem_of_getElem? (i := 661) (by decide +kernel), List.mem_of_getElem? (i := 938) (by decide +kernel), List.mem_of_getElem? (i := 939) (by decide +kernel)⟩
theorem lw_p46 : lw_okq (⟨"LinearHistoriesModel", "isDone", "(I)Z"⟩, 35) := ⟨⟨by decide +kernel, by decide +kernel⟩, List.mem_of_getElem? (i := 661) (by decide +kernel), List.mem_of_getElem? (i := 942) (by decide +kernel), List.mem_of_getElem? (i := 943) (by decide +kernel)⟩
def lw_privs_3 : List (MethodName × Nat) := [(⟨"LinearHistoriesModel", "doSet", "(III)V"⟩, 35), (⟨"LinearHistoriesModel", "likeFirst", "(II)I"⟩, 35), (⟨"LinearHistoriesModel", "doMap", "(III)V"⟩, 35), (⟨"LinearHistoriesModel", "likeSecond", "(II)I"⟩, 35), (⟨"LinearHistoriesModel", "doRow", "(III)V"⟩, 35), (⟨"LinearHistoriesModel", "search", "(III)I"⟩, 35), (⟨"LinearHistoriesModel", "judgeOf", "(IIII)I"⟩, 35), (⟨"LinearHistoriesModel", "isEnd", "(III)Z"⟩, 35), (⟨"LinearHistoriesModel", "isTouched", "(II)Z"⟩, 35), (⟨"LinearHistoriesModel", "linearity", "()I"⟩, 35), (⟨"LinearHistoriesModel", "lay", "()Z"⟩, 35), (⟨"LinearHistoriesModel", "enliven", "(I)V"⟩, 35), (⟨"LinearHistoriesModel", "isWhole", "()Z"⟩, 35), (⟨"LinearHistoriesModel", "goesOn", "(I)Z"⟩, 35), (⟨"LinearHistoriesModel", "isDone", "(I)Z"⟩, 35)]
theorem lw_r3 : ∀ q ∈ lw_privs_3, lw_okq q := List.forall_mem_cons.mpr ⟨lw_p32, List.forall_mem_cons.mpr ⟨lw_p33, List.forall_mem_cons.mpr ⟨lw_p34, List.forall_mem_cons.mpr ⟨lw_p35, List.forall_mem_cons.mpr ⟨lw_p36, List.forall_mem_cons.mpr ⟨lw_p37, List.forall_mem_cons.mpr ⟨lw_p38, List.forall_mem_cons.mpr ⟨lw_p39, List.forall_mem_cons.mpr ⟨lw_p40, List.forall_mem_cons.mpr ⟨lw_p41, List.forall_mem_cons.mpr ⟨lw_p42, List.forall_mem_cons.mpr ⟨lw_p43, List.forall_mem_cons.mpr ⟨lw_p44, List.forall_mem_cons.mpr ⟨lw_p45, List.forall_mem_cons.mpr ⟨lw_p46, fun _ h => absurd h List.not_mem_nil⟩⟩⟩⟩⟩⟩⟩⟩⟩⟩⟩⟩⟩⟩⟩
def lw_privs : List (MethodName × Nat) := lw_privs_1 ++ (lw_privs_2 ++ (lw_privs_3))
def lw_tbl : List Cond := k2_sels lw_privs ++ tables_1
theorem lw_privs_ok : ∀ q ∈ lw_privs, lw_okq q := by
  show ∀ q ∈ lw_privs_1 ++ (lw_privs_2 ++ (lw_privs_3)), lw_okq q
  exact List.forall_mem_append.mpr ⟨lw_r1, List.forall_mem_append.mpr ⟨lw_r2, lw_r3⟩⟩
end
section
def ROp : String := "LinearHistories$Operation"
def TOp : u_T := fun k => match k with
  | 0 => ("LinearHistories$Operation", "process", "I", false)
  | 1 => ("LinearHistories$Operation", "code", "I", false)
  | 2 => ("LinearHistories$Operation", "a", "I", false)
  | 3 => ("LinearHistories$Operation", "b", "I", false)
  | 4 => ("LinearHistories$Operation", "name", "I", false)
  | 5 => ("LinearHistories$Operation", "result", "I", false)
  | 6 => ("LinearHistories$Operation", "earlier", "I", false)
  | _ => ("LinearHistories$Operation", "ownEarlier", "I", false)
def tyOp : Nat → FieldType := fun k => match k with
  | 0 => .int
  | 1 => .int
  | 2 => .int
  | 3 => .int
  | 4 => .int
  | 5 => .int
  | 6 => .int
  | _ => .int
theorem nmOp : ∀ a, a < 8 → ∀ b, b < 8 → a ≠ b → (TOp a).2.1 ≠ (TOp b).2.1 := by decide +kernel
theorem tyOp_ok : ∀ k, k < 8 → parseFieldDescriptor (TOp k).2.2.1 = some (tyOp k) := by decide +kernel
def RSp : String := "LinearHistories$Space"
def TSp : u_T := fun k => match k with
  | 0 => ("LinearHistories$Space", "table", "LLinearHistories$Table;", true)
  | 1 => ("LinearHistories$Space", "state", "LLinearHistories$State;", true)
  | 2 => ("LinearHistories$Space", "ways", "[J", true)
  | 3 => ("LinearHistories$Space", "hopeful", "[Z", true)
  | 4 => ("LinearHistories$Space", "hopeMarked", "Z", false)
  | 5 => ("LinearHistories$Space", "count", "I", false)
  | 6 => ("LinearHistories$Space", "returned", "I", false)
  | _ => ("LinearHistories$Space", "own", "Z", false)
def tySp : Nat → FieldType := fun k => match k with
  | 0 => .object "LinearHistories$Table"
  | 1 => .object "LinearHistories$State"
  | 2 => .array .long
  | 3 => .array .boolean
  | 4 => .boolean
  | 5 => .int
  | 6 => .int
  | _ => .boolean
theorem nmSp : ∀ a, a < 8 → ∀ b, b < 8 → a ≠ b → (TSp a).2.1 ≠ (TSp b).2.1 := by decide +kernel
theorem tySp_ok : ∀ k, k < 8 → parseFieldDescriptor (TSp k).2.2.1 = some (tySp k) := by decide +kernel
def RSt : String := "LinearHistories$State"
def TSt : u_T := fun k => match k with
  | 0 => ("LinearHistories$State", "word", "J", false)
  | 1 => ("LinearHistories$State", "size", "I", false)
  | _ => ("LinearHistories$State", "result", "I", false)
def tySt : Nat → FieldType := fun k => match k with
  | 0 => .long
  | 1 => .int
  | _ => .int
theorem nmSt : ∀ a, a < 3 → ∀ b, b < 3 → a ≠ b → (TSt a).2.1 ≠ (TSt b).2.1 := by decide +kernel
theorem tySt_ok : ∀ k, k < 3 → parseFieldDescriptor (TSt k).2.2.1 = some (tySt k) := by decide +kernel
def RSu : String := "LinearHistories$Subject"
def TSu : u_T := fun k => match k with
  | 0 => ("LinearHistories$Subject", "operations", "[LLinearHistories$Operation;", true)
  | 1 => ("LinearHistories$Subject", "space", "LLinearHistories$Space;", true)
  | 2 => ("LinearHistories$Subject", "backEvents", "[I", true)
  | 3 => ("LinearHistories$Subject", "backCounts", "[I", true)
  | 4 => ("LinearHistories$Subject", "backSets", "[I", true)
  | 5 => ("LinearHistories$Subject", "kind", "I", false)
  | 6 => ("LinearHistories$Subject", "count", "I", false)
  | 7 => ("LinearHistories$Subject", "backs", "I", false)
  | 8 => ("LinearHistories$Subject", "returned", "I", false)
  | 9 => ("LinearHistories$Subject", "learned", "Z", false)
  | 10 => ("LinearHistories$Subject", "possibilityCount", "I", false)
  | 11 => ("LinearHistories$Subject", "judgement", "I", false)
  | 12 => ("LinearHistories$Subject", "wayCount", "J", false)
  | 13 => ("LinearHistories$Subject", "lastCount", "I", false)
  | 14 => ("LinearHistories$Subject", "ownLearned", "Z", false)
  | 15 => ("LinearHistories$Subject", "ownJudgement", "I", false)
  | 16 => ("LinearHistories$Subject", "backsLearned", "I", false)
  | _ => ("LinearHistories$Subject", "brokenAt", "I", false)
def tySu : Nat → FieldType := fun k => match k with
  | 0 => .array (.object "LinearHistories$Operation")
  | 1 => .object "LinearHistories$Space"
  | 2 => .array .int
  | 3 => .array .int
  | 4 => .array .int
  | 5 => .int
  | 6 => .int
  | 7 => .int
  | 8 => .int
  | 9 => .boolean
  | 10 => .int
  | 11 => .int
  | 12 => .long
  | 13 => .int
  | 14 => .boolean
  | 15 => .int
  | 16 => .int
  | _ => .int
theorem nmSu : ∀ a, a < 18 → ∀ b, b < 18 → a ≠ b → (TSu a).2.1 ≠ (TSu b).2.1 := by decide +kernel
theorem tySu_ok : ∀ k, k < 18 → parseFieldDescriptor (TSu k).2.2.1 = some (tySu k) := by decide +kernel
def RTa : String := "LinearHistories$Table"
def TTa : u_T := fun k => match k with
  | 0 => ("LinearHistories$Table", "keys", "[I", true)
  | 1 => ("LinearHistories$Table", "words", "[J", true)
  | 2 => ("LinearHistories$Table", "chains", "[I", true)
  | 3 => ("LinearHistories$Table", "links", "[I", true)
  | _ => ("LinearHistories$Table", "count", "I", false)
def tyTa : Nat → FieldType := fun k => match k with
  | 0 => .array .int
  | 1 => .array .long
  | 2 => .array .int
  | 3 => .array .int
  | _ => .int
theorem nmTa : ∀ a, a < 5 → ∀ b, b < 5 → a ≠ b → (TTa a).2.1 ≠ (TTa b).2.1 := by decide +kernel
theorem tyTa_ok : ∀ k, k < 5 → parseFieldDescriptor (TTa k).2.2.1 = some (tyTa k) := by decide +kernel
def RLH : String := "LinearHistories"
def TLH : u_T := fun k => match k with
  | 0 => ("LinearHistories", "subjects", "[LLinearHistories$Subject;", true)
  | 1 => ("LinearHistories", "owners", "[I", true)
  | 2 => ("LinearHistories", "places", "[I", true)
  | 3 => ("LinearHistories", "earlier", "[J", true)
  | 4 => ("LinearHistories", "waiting", "[I", true)
  | 5 => ("LinearHistories", "scratch", "LLinearHistories$Space;", true)
  | 6 => ("LinearHistories", "rowNumbers", "[I", true)
  | 7 => ("LinearHistories", "rowResults", "[I", true)
  | 8 => ("LinearHistories", "reached", "[I", true)
  | 9 => ("LinearHistories", "rowLength", "I", false)
  | 10 => ("LinearHistories", "rowBuilt", "Z", false)
  | 11 => ("LinearHistories", "objectCount", "I", false)
  | 12 => ("LinearHistories", "operationCount", "I", false)
  | 13 => ("LinearHistories", "eventCount", "I", false)
  | _ => ("LinearHistories", "cameBack", "J", false)
def tyLH : Nat → FieldType := fun k => match k with
  | 0 => .array (.object "LinearHistories$Subject")
  | 1 => .array .int
  | 2 => .array .int
  | 3 => .array .long
  | 4 => .array .int
  | 5 => .object "LinearHistories$Space"
  | 6 => .array .int
  | 7 => .array .int
  | 8 => .array .int
  | 9 => .int
  | 10 => .boolean
  | 11 => .int
  | 12 => .int
  | 13 => .int
  | _ => .long
theorem nmLH : ∀ a, a < 15 → ∀ b, b < 15 → a ≠ b → (TLH a).2.1 ≠ (TLH b).2.1 := by decide +kernel
theorem tyLH_ok : ∀ k, k < 15 → parseFieldDescriptor (TLH k).2.2.1 = some (tyLH k) := by decide +kernel
def RMo : String := "LinearHistoriesModel"
def TMo : u_T := fun k => match k with
  | 0 => ("LinearHistoriesModel", "thrown", "I", false)
  | 1 => ("LinearHistoriesModel", "objects", "I", false)
  | 2 => ("LinearHistoriesModel", "kinds", "[I", true)
  | 3 => ("LinearHistoriesModel", "counts", "[I", true)
  | 4 => ("LinearHistoriesModel", "list", "[I", true)
  | 5 => ("LinearHistoriesModel", "operations", "I", false)
  | 6 => ("LinearHistoriesModel", "process", "[I", true)
  | 7 => ("LinearHistoriesModel", "objectOf", "[I", true)
  | 8 => ("LinearHistoriesModel", "operation", "[I", true)
  | 9 => ("LinearHistoriesModel", "first", "[I", true)
  | 10 => ("LinearHistoriesModel", "second", "[I", true)
  | 11 => ("LinearHistoriesModel", "backWith", "[I", true)
  | 12 => ("LinearHistoriesModel", "calledAt", "[I", true)
  | 13 => ("LinearHistoriesModel", "backAt", "[I", true)
  | 14 => ("LinearHistoriesModel", "open", "[I", true)
  | 15 => ("LinearHistoriesModel", "events", "I", false)
  | 16 => ("LinearHistoriesModel", "masks", "[I", true)
  | 17 => ("LinearHistoriesModel", "states", "[J", true)
  | 18 => ("LinearHistoriesModel", "alive", "[Z", true)
  | 19 => ("LinearHistoriesModel", "rows", "[J", true)
  | 20 => ("LinearHistoriesModel", "known", "[Z", true)
  | 21 => ("LinearHistoriesModel", "found", "[I", true)
  | 22 => ("LinearHistoriesModel", "judged", "[I", true)
  | 23 => ("LinearHistoriesModel", "ways", "[J", true)
  | 24 => ("LinearHistoriesModel", "lasts", "[I", true)
  | 25 => ("LinearHistoriesModel", "brokenAt", "[I", true)
  | 26 => ("LinearHistoriesModel", "knownBroken", "[Z", true)
  | 27 => ("LinearHistoriesModel", "state", "J", false)
  | 28 => ("LinearHistoriesModel", "things", "I", false)
  | 29 => ("LinearHistoriesModel", "told", "I", false)
  | 30 => ("LinearHistoriesModel", "knownRow", "Z", false)
  | 31 => ("LinearHistoriesModel", "length", "I", false)
  | 32 => ("LinearHistoriesModel", "row", "[I", true)
  | 33 => ("LinearHistoriesModel", "results", "[I", true)
  | _ => ("LinearHistoriesModel", "at", "[I", true)
def tyMo : Nat → FieldType := fun k => match k with
  | 0 => .int
  | 1 => .int
  | 2 => .array .int
  | 3 => .array .int
  | 4 => .array .int
  | 5 => .int
  | 6 => .array .int
  | 7 => .array .int
  | 8 => .array .int
  | 9 => .array .int
  | 10 => .array .int
  | 11 => .array .int
  | 12 => .array .int
  | 13 => .array .int
  | 14 => .array .int
  | 15 => .int
  | 16 => .array .int
  | 17 => .array .long
  | 18 => .array .boolean
  | 19 => .array .long
  | 20 => .array .boolean
  | 21 => .array .int
  | 22 => .array .int
  | 23 => .array .long
  | 24 => .array .int
  | 25 => .array .int
  | 26 => .array .boolean
  | 27 => .long
  | 28 => .int
  | 29 => .int
  | 30 => .boolean
  | 31 => .int
  | 32 => .array .int
  | 33 => .array .int
  | _ => .array .int
theorem nmMo : ∀ a, a < 35 → ∀ b, b < 35 → a ≠ b → (TMo a).2.1 ≠ (TMo b).2.1 := by decide +kernel
theorem tyMo_ok : ∀ k, k < 35 → parseFieldDescriptor (TMo k).2.2.1 = some (tyMo k) := by decide +kernel
def RLa : String := "LinearHistoriesLaw"
def RAr : String := "java/util/Arrays"
abbrev vcl : List vw_C := [(ROp, TOp, 8), (RSp, TSp, 8), (RSt, TSt, 3), (RSu, TSu, 18), (RTa, TTa, 5), (RLH, TLH, 15), (RMo, TMo, 35)]
abbrev bLH_init : ByteArray := prog_1_method_1_code
def yLH_init : MethodName := ⟨RLH, "<init>", "()V"⟩
abbrev bSp_init : ByteArray := prog_3_method_1_code
def ySp_init : MethodName := ⟨RSp, "<init>", "()V"⟩
abbrev bTa_init : ByteArray := prog_6_method_1_code
def yTa_init : MethodName := ⟨RTa, "<init>", "()V"⟩
abbrev bSt_init : ByteArray := prog_4_method_1_code
def ySt_init : MethodName := ⟨RSt, "<init>", "()V"⟩
abbrev bAr_fill : ByteArray := prog_16_method_103_code
def yAr_fill : MethodName := ⟨RAr, "fill", "([II)V"⟩
abbrev bLH_clear : ByteArray := prog_1_method_6_code
def yLH_clear : MethodName := ⟨RLH, "clear", "()I"⟩
abbrev bLH_events : ByteArray := prog_1_method_7_code
def yLH_events : MethodName := ⟨RLH, "events", "()I"⟩
abbrev bLH_linear : ByteArray := prog_1_method_14_code
def yLH_linear : MethodName := ⟨RLH, "linear", "()I"⟩
abbrev bLH_subjectOf : ByteArray := prog_1_method_22_code
def yLH_subjectOf : MethodName := ⟨RLH, "subjectOf", "(I)LLinearHistories$Subject;"⟩
abbrev bSu_learn : ByteArray := prog_5_method_10_code
def ySu_learn : MethodName := ⟨RSu, "learn", "(LLinearHistories$Space;)V"⟩
abbrev bSp_explore : ByteArray := prog_3_method_2_code
def ySp_explore : MethodName := ⟨RSp, "explore", "(LLinearHistories$Subject;IIZ)Z"⟩
abbrev bTa_makeEmpty : ByteArray := prog_6_method_2_code
def yTa_makeEmpty : MethodName := ⟨RTa, "makeEmpty", "()V"⟩
abbrev bTa_keep : ByteArray := prog_6_method_4_code
def yTa_keep : MethodName := ⟨RTa, "keep", "(IJ)I"⟩
abbrev bTa_chainOf : ByteArray := prog_6_method_5_code
def yTa_chainOf : MethodName := ⟨RTa, "chainOf", "(IJ)I"⟩
abbrev bTa_findIn : ByteArray := prog_6_method_6_code
def yTa_findIn : MethodName := ⟨RTa, "findIn", "(IIJ)I"⟩
abbrev bSp_step : ByteArray := prog_3_method_3_code
def ySp_step : MethodName := ⟨RSp, "step", "(LLinearHistories$Subject;II)Z"⟩
abbrev bSt_become : ByteArray := prog_4_method_2_code
def ySt_become : MethodName := ⟨RSt, "become", "(JI)V"⟩
abbrev bSt_change : ByteArray := prog_4_method_3_code
def ySt_change : MethodName := ⟨RSt, "change", "(ILLinearHistories$Operation;[LLinearHistories$Operation;)V"⟩
abbrev bSt_changeRegister : ByteArray := prog_4_method_4_code
def ySt_changeRegister : MethodName := ⟨RSt, "changeRegister", "(LLinearHistories$Operation;)I"⟩
abbrev bSt_changeSet : ByteArray := prog_4_method_9_code
def ySt_changeSet : MethodName := ⟨RSt, "changeSet", "(LLinearHistories$Operation;)I"⟩
abbrev bSt_changeMap : ByteArray := prog_4_method_10_code
def ySt_changeMap : MethodName := ⟨RSt, "changeMap", "(LLinearHistories$Operation;[LLinearHistories$Operation;)I"⟩
abbrev bSt_changeSequence : ByteArray := prog_4_method_5_code
def ySt_changeSequence : MethodName := ⟨RSt, "changeSequence", "(ILLinearHistories$Operation;[LLinearHistories$Operation;)I"⟩
abbrev bSt_placeInHeap : ByteArray := prog_4_method_6_code
def ySt_placeInHeap : MethodName := ⟨RSt, "placeInHeap", "(I[LLinearHistories$Operation;)I"⟩
abbrev bSt_insertAt : ByteArray := prog_4_method_7_code
def ySt_insertAt : MethodName := ⟨RSt, "insertAt", "(II)V"⟩
abbrev bSt_removeAt : ByteArray := prog_4_method_8_code
def ySt_removeAt : MethodName := ⟨RSt, "removeAt", "(I)I"⟩
abbrev bSp_keyBehind : ByteArray := prog_3_method_4_code
def ySp_keyBehind : MethodName := ⟨RSp, "keyBehind", "(II)I"⟩
abbrev bSp_waysToEnds : ByteArray := prog_3_method_7_code
def ySp_waysToEnds : MethodName := ⟨RSp, "waysToEnds", "()J"⟩
abbrev bSp_isEnd : ByteArray := prog_3_method_6_code
def ySp_isEnd : MethodName := ⟨RSp, "isEnd", "(I)Z"⟩
abbrev bSp_statesAtEnds : ByteArray := prog_3_method_8_code
def ySp_statesAtEnds : MethodName := ⟨RSp, "statesAtEnds", "(LLinearHistories$Table;)I"⟩
abbrev bLa_object : ByteArray := method_3_code
def yLa_object : MethodName := ⟨RLa, "object", "(LLinearHistories;I[J)I"⟩
abbrev bLH_object : ByteArray := prog_1_method_2_code
def yLH_object : MethodName := ⟨RLH, "object", "(I)I"⟩
abbrev bSu_init : ByteArray := prog_5_method_1_code
def ySu_init : MethodName := ⟨RSu, "<init>", "()V"⟩
abbrev bOp_init : ByteArray := prog_2_method_1_code
def yOp_init : MethodName := ⟨ROp, "<init>", "()V"⟩
abbrev bSu_begin : ByteArray := prog_5_method_2_code
def ySu_begin : MethodName := ⟨RSu, "begin", "(I)V"⟩
abbrev bSu_forget : ByteArray := prog_5_method_3_code
def ySu_forget : MethodName := ⟨RSu, "forget", "()V"⟩
abbrev bLa_call : ByteArray := method_4_code
def yLa_call : MethodName := ⟨RLa, "call", "(LLinearHistories;IIIII[J)I"⟩
abbrev bLH_call : ByteArray := prog_1_method_3_code
def yLH_call : MethodName := ⟨RLH, "call", "(IIIII)I"⟩
abbrev bLH_checkProcess : ByteArray := prog_1_method_20_code
def yLH_checkProcess : MethodName := ⟨RLH, "checkProcess", "(I)V"⟩
abbrev bSu_operationsOfKind : ByteArray := prog_5_method_4_code
def ySu_operationsOfKind : MethodName := ⟨RSu, "operationsOfKind", "()I"⟩
abbrev bSu_addOperation : ByteArray := prog_5_method_5_code
def ySu_addOperation : MethodName := ⟨RSu, "addOperation", "(IIII)V"⟩
abbrev bSu_placesOf : ByteArray := prog_5_method_6_code
def ySu_placesOf : MethodName := ⟨RSu, "placesOf", "(I)I"⟩
abbrev bSu_numberOf : ByteArray := prog_5_method_8_code
def ySu_numberOf : MethodName := ⟨RSu, "numberOf", "(LLinearHistories$Operation;)I"⟩
abbrev bSu_nameOf : ByteArray := prog_5_method_7_code
def ySu_nameOf : MethodName := ⟨RSu, "nameOf", "(I)I"⟩
abbrev bLa_back : ByteArray := method_5_code
def yLa_back : MethodName := ⟨RLa, "back", "(LLinearHistories;II)I"⟩
abbrev bLH_back : ByteArray := prog_1_method_4_code
def yLH_back : MethodName := ⟨RLH, "back", "(II)V"⟩
abbrev bLH_operationOf : ByteArray := prog_1_method_21_code
def yLH_operationOf : MethodName := ⟨RLH, "operationOf", "(I)I"⟩
abbrev bSu_endOperation : ByteArray := prog_5_method_9_code
def ySu_endOperation : MethodName := ⟨RSu, "endOperation", "(III)V"⟩
abbrev bLa_lose : ByteArray := method_6_code
def yLa_lose : MethodName := ⟨RLa, "lose", "(LLinearHistories;I)I"⟩
abbrev bLH_lose : ByteArray := prog_1_method_5_code
def yLH_lose : MethodName := ⟨RLH, "lose", "(I)V"⟩
abbrev bLa_possibilities : ByteArray := method_7_code
def yLa_possibilities : MethodName := ⟨RLa, "possibilities", "(LLinearHistories;I[J)I"⟩
abbrev bLH_possibilities : ByteArray := prog_1_method_8_code
def yLH_possibilities : MethodName := ⟨RLH, "possibilities", "(I)I"⟩
abbrev bLH_learnedSubject : ByteArray := prog_1_method_23_code
def yLH_learnedSubject : MethodName := ⟨RLH, "learnedSubject", "(I)LLinearHistories$Subject;"⟩
abbrev bLa_judge : ByteArray := method_8_code
def yLa_judge : MethodName := ⟨RLa, "judge", "(LLinearHistories;I[J)I"⟩
abbrev bLH_judge : ByteArray := prog_1_method_9_code
def yLH_judge : MethodName := ⟨RLH, "judge", "(I)I"⟩
abbrev bLa_judgeOwn : ByteArray := method_9_code
def yLa_judgeOwn : MethodName := ⟨RLa, "judgeOwn", "(LLinearHistories;I[J)I"⟩
abbrev bLH_judgeOwn : ByteArray := prog_1_method_10_code
def yLH_judgeOwn : MethodName := ⟨RLH, "judgeOwn", "(I)I"⟩
abbrev bSu_learnOwn : ByteArray := prog_5_method_11_code
def ySu_learnOwn : MethodName := ⟨RSu, "learnOwn", "(LLinearHistories$Space;)V"⟩
abbrev bLa_ways : ByteArray := method_10_code
def yLa_ways : MethodName := ⟨RLa, "ways", "(LLinearHistories;I[J)I"⟩
abbrev bLH_ways : ByteArray := prog_1_method_11_code
def yLH_ways : MethodName := ⟨RLH, "ways", "(I)J"⟩
abbrev bLa_lasts : ByteArray := method_11_code
def yLa_lasts : MethodName := ⟨RLa, "lasts", "(LLinearHistories;I[J)I"⟩
abbrev bLH_lasts : ByteArray := prog_1_method_12_code
def yLH_lasts : MethodName := ⟨RLH, "lasts", "(I)I"⟩
abbrev bLa_broken : ByteArray := method_12_code
def yLa_broken : MethodName := ⟨RLa, "broken", "(LLinearHistories;I[J)I"⟩
abbrev bLH_broken : ByteArray := prog_1_method_13_code
def yLH_broken : MethodName := ⟨RLH, "broken", "(I)I"⟩
abbrev bSu_learnBreak : ByteArray := prog_5_method_12_code
def ySu_learnBreak : MethodName := ⟨RSu, "learnBreak", "(LLinearHistories$Space;)V"⟩
abbrev bLa_length : ByteArray := method_13_code
def yLa_length : MethodName := ⟨RLa, "length", "(LLinearHistories;[J)I"⟩
abbrev bLH_length : ByteArray := prog_1_method_15_code
def yLH_length : MethodName := ⟨RLH, "length", "()I"⟩
abbrev bLH_checkLinear : ByteArray := prog_1_method_18_code
def yLH_checkLinear : MethodName := ⟨RLH, "checkLinear", "(I)V"⟩
abbrev bLH_buildRow : ByteArray := prog_1_method_24_code
def yLH_buildRow : MethodName := ⟨RLH, "buildRow", "()V"⟩
abbrev bSp_markHopeful : ByteArray := prog_3_method_9_code
def ySp_markHopeful : MethodName := ⟨RSp, "markHopeful", "(LLinearHistories$Subject;)V"⟩
abbrev bSp_target : ByteArray := prog_3_method_5_code
def ySp_target : MethodName := ⟨RSp, "target", "(LLinearHistories$Subject;II)I"⟩
abbrev bTa_find : ByteArray := prog_6_method_3_code
def yTa_find : MethodName := ⟨RTa, "find", "(IJ)I"⟩
abbrev bLH_allAtEnds : ByteArray := prog_1_method_25_code
def yLH_allAtEnds : MethodName := ⟨RLH, "allAtEnds", "()Z"⟩
abbrev bLH_placeNext : ByteArray := prog_1_method_26_code
def yLH_placeNext : MethodName := ⟨RLH, "placeNext", "(J)I"⟩
abbrev bLa_row : ByteArray := method_14_code
def yLa_row : MethodName := ⟨RLa, "row", "(LLinearHistories;I[J)I"⟩
abbrev bLH_row : ByteArray := prog_1_method_16_code
def yLH_row : MethodName := ⟨RLH, "row", "(I)I"⟩
abbrev bLH_checkPlace : ByteArray := prog_1_method_19_code
def yLH_checkPlace : MethodName := ⟨RLH, "checkPlace", "(I)V"⟩
abbrev bLa_result : ByteArray := method_15_code
def yLa_result : MethodName := ⟨RLa, "result", "(LLinearHistories;I[J)I"⟩
abbrev bLH_result : ByteArray := prog_1_method_17_code
def yLH_result : MethodName := ⟨RLH, "result", "(I)I"⟩
abbrev bMo_init : ByteArray := prog_8_method_1_code
def yMo_init : MethodName := ⟨RMo, "<init>", "()V"⟩
abbrev bMo_forget : ByteArray := prog_8_method_3_code
def yMo_forget : MethodName := ⟨RMo, "forget", "()V"⟩
abbrev bMo_change : ByteArray := prog_8_method_4_code
def yMo_change : MethodName := ⟨RMo, "change", "()V"⟩
abbrev bMo_thrown : ByteArray := prog_8_method_2_code
def yMo_thrown : MethodName := ⟨RMo, "thrown", "()I"⟩
abbrev bMo_object : ByteArray := prog_8_method_5_code
def yMo_object : MethodName := ⟨RMo, "object", "(I)I"⟩
abbrev bMo_call : ByteArray := prog_8_method_7_code
def yMo_call : MethodName := ⟨RMo, "call", "(IIIII)I"⟩
abbrev bMo_noObject : ByteArray := prog_8_method_6_code
def yMo_noObject : MethodName := ⟨RMo, "noObject", "(I)Z"⟩
abbrev bMo_back : ByteArray := prog_8_method_9_code
def yMo_back : MethodName := ⟨RMo, "back", "(II)V"⟩
abbrev bMo_isIdle : ByteArray := prog_8_method_8_code
def yMo_isIdle : MethodName := ⟨RMo, "isIdle", "(I)Z"⟩
abbrev bMo_lose : ByteArray := prog_8_method_10_code
def yMo_lose : MethodName := ⟨RMo, "lose", "(I)V"⟩
abbrev bMo_clear : ByteArray := prog_8_method_11_code
def yMo_clear : MethodName := ⟨RMo, "clear", "()I"⟩
abbrev bMo_events : ByteArray := prog_8_method_12_code
def yMo_events : MethodName := ⟨RMo, "events", "()I"⟩
abbrev bMo_possibilities : ByteArray := prog_8_method_29_code
def yMo_possibilities : MethodName := ⟨RMo, "possibilities", "(I)I"⟩
abbrev bMo_look : ByteArray := prog_8_method_28_code
def yMo_look : MethodName := ⟨RMo, "look", "(I)V"⟩
abbrev bMo_gather : ByteArray := prog_8_method_25_code
def yMo_gather : MethodName := ⟨RMo, "gather", "(IIIZ)I"⟩
abbrev bMo_can : ByteArray := prog_8_method_23_code
def yMo_can : MethodName := ⟨RMo, "can", "(IIIIZ)Z"⟩
abbrev bMo_isBefore : ByteArray := prog_8_method_22_code
def yMo_isBefore : MethodName := ⟨RMo, "isBefore", "(IIIZ)Z"⟩
abbrev bMo_isBack : ByteArray := prog_8_method_21_code
def yMo_isBack : MethodName := ⟨RMo, "isBack", "(II)Z"⟩
abbrev bMo_doIt : ByteArray := prog_8_method_20_code
def yMo_doIt : MethodName := ⟨RMo, "doIt", "(III)V"⟩
abbrev bMo_doRegister : ByteArray := prog_8_method_16_code
def yMo_doRegister : MethodName := ⟨RMo, "doRegister", "(III)V"⟩
abbrev bMo_doSet : ByteArray := prog_8_method_18_code
def yMo_doSet : MethodName := ⟨RMo, "doSet", "(III)V"⟩
abbrev bMo_likeFirst : ByteArray := prog_8_method_13_code
def yMo_likeFirst : MethodName := ⟨RMo, "likeFirst", "(II)I"⟩
abbrev bMo_doMap : ByteArray := prog_8_method_19_code
def yMo_doMap : MethodName := ⟨RMo, "doMap", "(III)V"⟩
abbrev bMo_likeSecond : ByteArray := prog_8_method_14_code
def yMo_likeSecond : MethodName := ⟨RMo, "likeSecond", "(II)I"⟩
abbrev bMo_doRow : ByteArray := prog_8_method_17_code
def yMo_doRow : MethodName := ⟨RMo, "doRow", "(III)V"⟩
abbrev bMo_thing : ByteArray := prog_8_method_15_code
def yMo_thing : MethodName := ⟨RMo, "thing", "(JI)I"⟩
abbrev bMo_search : ByteArray := prog_8_method_24_code
def yMo_search : MethodName := ⟨RMo, "search", "(III)I"⟩
abbrev bMo_judgeOf : ByteArray := prog_8_method_27_code
def yMo_judgeOf : MethodName := ⟨RMo, "judgeOf", "(IIII)I"⟩
abbrev bMo_isEnd : ByteArray := prog_8_method_26_code
def yMo_isEnd : MethodName := ⟨RMo, "isEnd", "(III)Z"⟩
abbrev bMo_judge : ByteArray := prog_8_method_30_code
def yMo_judge : MethodName := ⟨RMo, "judge", "(I)I"⟩
abbrev bMo_judgeOwn : ByteArray := prog_8_method_31_code
def yMo_judgeOwn : MethodName := ⟨RMo, "judgeOwn", "(I)I"⟩
abbrev bMo_ways : ByteArray := prog_8_method_32_code
def yMo_ways : MethodName := ⟨RMo, "ways", "(I)J"⟩
abbrev bMo_lasts : ByteArray := prog_8_method_33_code
def yMo_lasts : MethodName := ⟨RMo, "lasts", "(I)I"⟩
abbrev bMo_broken : ByteArray := prog_8_method_35_code
def yMo_broken : MethodName := ⟨RMo, "broken", "(I)I"⟩
abbrev bMo_isTouched : ByteArray := prog_8_method_34_code
def yMo_isTouched : MethodName := ⟨RMo, "isTouched", "(II)Z"⟩
abbrev bMo_linear : ByteArray := prog_8_method_37_code
def yMo_linear : MethodName := ⟨RMo, "linear", "()I"⟩
abbrev bMo_linearity : ByteArray := prog_8_method_36_code
def yMo_linearity : MethodName := ⟨RMo, "linearity", "()I"⟩
abbrev bMo_length : ByteArray := prog_8_method_43_code
def yMo_length : MethodName := ⟨RMo, "length", "()I"⟩
abbrev bMo_lay : ByteArray := prog_8_method_42_code
def yMo_lay : MethodName := ⟨RMo, "lay", "()Z"⟩
abbrev bMo_enliven : ByteArray := prog_8_method_38_code
def yMo_enliven : MethodName := ⟨RMo, "enliven", "(I)V"⟩
abbrev bMo_isWhole : ByteArray := prog_8_method_41_code
def yMo_isWhole : MethodName := ⟨RMo, "isWhole", "()Z"⟩
abbrev bMo_goesOn : ByteArray := prog_8_method_40_code
def yMo_goesOn : MethodName := ⟨RMo, "goesOn", "(I)Z"⟩
abbrev bMo_isDone : ByteArray := prog_8_method_39_code
def yMo_isDone : MethodName := ⟨RMo, "isDone", "(I)Z"⟩
abbrev bMo_row : ByteArray := prog_8_method_44_code
def yMo_row : MethodName := ⟨RMo, "row", "(I)I"⟩
abbrev bMo_result : ByteArray := prog_8_method_45_code
def yMo_result : MethodName := ⟨RMo, "result", "(I)I"⟩
abbrev bLa_law : ByteArray := code
def yLa_law : MethodName := ⟨RLa, "law", "([I)Z"⟩
def TB : List Cond := lw_tbl.filter goodWord
theorem tb_t {w : Cond} (i : Nat) (h : tables_1[i]? = some w) (g : goodWord w = true) : w ∈ TB := List.mem_filter.mpr ⟨List.mem_append_right _ (List.mem_of_getElem? h), g⟩
theorem tb_s {w : Cond} (i : Nat) (h : (k2_sels lw_privs)[i]? = some w) (g : goodWord w = true) : w ∈ TB := List.mem_filter.mpr ⟨List.mem_append_left _ (List.mem_of_getElem? h), g⟩
end
section
theorem w0 : Cond.initialized "LinearHistoriesLaw" ∈ TB := tb_t 0 (by decide +kernel) (by decide +kernel)
theorem w1 : Cond.initialized "LinearHistories" ∈ TB := tb_t 1 (by decide +kernel) (by decide +kernel)
theorem w2 : Cond.initialized "LinearHistories$Space" ∈ TB := tb_t 2 (by decide +kernel) (by decide +kernel)
theorem w3 : Cond.initialized "LinearHistories$Table" ∈ TB := tb_t 3 (by decide +kernel) (by decide +kernel)
theorem w4 : Cond.initialized "LinearHistories$State" ∈ TB := tb_t 4 (by decide +kernel) (by decide +kernel)
theorem w5 : Cond.initialized "java/util/Arrays" ∈ TB := tb_t 5 (by decide +kernel) (by decide +kernel)
theorem w6 : Cond.initialized "LinearHistoriesModel" ∈ TB := tb_t 6 (by decide +kernel) (by decide +kernel)
theorem w7 : Cond.initialized "java/lang/Throwable" ∈ TB := tb_t 7 (by decide +kernel) (by decide +kernel)
theorem w8 : Cond.initialized "java/lang/Exception" ∈ TB := tb_t 8 (by decide +kernel) (by decide +kernel)
theorem w9 : Cond.initialized "java/lang/RuntimeException" ∈ TB := tb_t 9 (by decide +kernel) (by decide +kernel)
theorem w10 : Cond.initialized "java/lang/IllegalArgumentException" ∈ TB := tb_t 10 (by decide +kernel) (by decide +kernel)
theorem w11 : Cond.initialized "LinearHistories$Subject" ∈ TB := tb_t 11 (by decide +kernel) (by decide +kernel)
theorem w12 : Cond.initialized "LinearHistories$Operation" ∈ TB := tb_t 12 (by decide +kernel) (by decide +kernel)
theorem w13 : Cond.initialized "java/lang/IllegalStateException" ∈ TB := tb_t 13 (by decide +kernel) (by decide +kernel)
theorem w14 : Cond.initialized "java/lang/IndexOutOfBoundsException" ∈ TB := tb_t 14 (by decide +kernel) (by decide +kernel)
theorem w15 : Cond.classLink "LinearHistoriesLaw" 8 "LinearHistories" ∈ TB := tb_t 15 (by decide +kernel) (by decide +kernel)
theorem w16 : Cond.instantiable "LinearHistories" 15 ∈ TB := tb_t 16 (by decide +kernel) (by decide +kernel)
theorem w17 : Cond.methodLink "LinearHistoriesLaw" 60 yLH_init ∈ TB := tb_t 17 (by decide +kernel) (by decide +kernel)
theorem w18 : Cond.instanceMethod yLH_init ∈ TB := tb_t 18 (by decide +kernel) (by decide +kernel)
theorem w19 : Cond.code yLH_init prog_1_method_1_code 1 (Option.none : Option Jvm.ClassFile.FieldType) ∈ TB := tb_t 19 (by decide +kernel) (by decide +kernel)
theorem w20 : Cond.methodLink "LinearHistories" 1 ⟨"java/lang/Object", "<init>", "()V"⟩ ∈ TB := tb_t 20 (by decide +kernel) (by decide +kernel)
theorem w21 : Cond.instanceMethod ⟨"java/lang/Object", "<init>", "()V"⟩ ∈ TB := tb_t 21 (by decide +kernel) (by decide +kernel)
theorem w22 : Cond.code ⟨"java/lang/Object", "<init>", "()V"⟩ object_method_1_code 1 (Option.none : Option Jvm.ClassFile.FieldType) ∈ TB := tb_t 22 (by decide +kernel) (by decide +kernel)
theorem w23 : Cond.classLink "LinearHistories" 9 "LinearHistories$Subject" ∈ TB := tb_t 23 (by decide +kernel) (by decide +kernel)
theorem w25 : Cond.classLink "LinearHistories" 29 "LinearHistories$Space" ∈ TB := tb_t 25 (by decide +kernel) (by decide +kernel)
theorem w26 : Cond.instantiable "LinearHistories$Space" 8 ∈ TB := tb_t 26 (by decide +kernel) (by decide +kernel)
theorem w28 : Cond.instanceMethod ySp_init ∈ TB := tb_t 28 (by decide +kernel) (by decide +kernel)
theorem w29 : Cond.code ySp_init prog_3_method_1_code 1 (Option.none : Option Jvm.ClassFile.FieldType) ∈ TB := tb_t 29 (by decide +kernel) (by decide +kernel)
theorem w30 : Cond.methodLink "LinearHistories$Space" 3 ⟨"java/lang/Object", "<init>", "()V"⟩ ∈ TB := tb_t 30 (by decide +kernel) (by decide +kernel)
theorem w31 : Cond.classLink "LinearHistories$Space" 9 "LinearHistories$Table" ∈ TB := tb_t 31 (by decide +kernel) (by decide +kernel)
theorem w32 : Cond.instantiable "LinearHistories$Table" 5 ∈ TB := tb_t 32 (by decide +kernel) (by decide +kernel)
theorem w34 : Cond.instanceMethod yTa_init ∈ TB := tb_t 34 (by decide +kernel) (by decide +kernel)
theorem w35 : Cond.code yTa_init prog_6_method_1_code 1 (Option.none : Option Jvm.ClassFile.FieldType) ∈ TB := tb_t 35 (by decide +kernel) (by decide +kernel)
theorem w36 : Cond.methodLink "LinearHistories$Table" 3 ⟨"java/lang/Object", "<init>", "()V"⟩ ∈ TB := tb_t 36 (by decide +kernel) (by decide +kernel)
theorem w37 : Cond.fieldLink "LinearHistories$Table" 9 "LinearHistories$Table" "keys" "[I" ∈ TB := tb_t 37 (by decide +kernel) (by decide +kernel)
theorem w38 : Cond.fieldLink "LinearHistories$Space" 67 "LinearHistories$Table" "keys" "[I" ∈ TB := tb_t 38 (by decide +kernel) (by decide +kernel)
theorem w39 : Cond.fieldLink "LinearHistories$Table" 15 "LinearHistories$Table" "words" "[J" ∈ TB := tb_t 39 (by decide +kernel) (by decide +kernel)
theorem w40 : Cond.fieldLink "LinearHistories$Space" 86 "LinearHistories$Table" "words" "[J" ∈ TB := tb_t 40 (by decide +kernel) (by decide +kernel)
theorem w41 : Cond.fieldLink "LinearHistories$Table" 19 "LinearHistories$Table" "chains" "[I" ∈ TB := tb_t 41 (by decide +kernel) (by decide +kernel)
theorem w42 : Cond.fieldLink "LinearHistories$Table" 22 "LinearHistories$Table" "links" "[I" ∈ TB := tb_t 42 (by decide +kernel) (by decide +kernel)
theorem w43 : Cond.fieldLink "LinearHistories$Table" 25 "LinearHistories$Table" "count" "I" ∈ TB := tb_t 43 (by decide +kernel) (by decide +kernel)
theorem w44 : Cond.fieldLink "LinearHistories$Space" 54 "LinearHistories$Table" "count" "I" ∈ TB := tb_t 44 (by decide +kernel) (by decide +kernel)
theorem w45 : Cond.fieldLink "LinearHistories$Subject" 107 "LinearHistories$Table" "count" "I" ∈ TB := tb_t 45 (by decide +kernel) (by decide +kernel)
theorem w57 : Cond.arrayClass Jvm.ClassFile.FieldType.int ∈ TB := tb_t 57 (by decide +kernel) (by decide +kernel)
theorem w58 : Cond.arrayClass Jvm.ClassFile.FieldType.long ∈ TB := tb_t 58 (by decide +kernel) (by decide +kernel)
theorem w59 : Cond.classLink "LinearHistories$Space" 18 "LinearHistories$State" ∈ TB := tb_t 59 (by decide +kernel) (by decide +kernel)
theorem w60 : Cond.instantiable "LinearHistories$State" 3 ∈ TB := tb_t 60 (by decide +kernel) (by decide +kernel)
theorem w62 : Cond.instanceMethod ySt_init ∈ TB := tb_t 62 (by decide +kernel) (by decide +kernel)
theorem w63 : Cond.code ySt_init prog_4_method_1_code 1 (Option.none : Option Jvm.ClassFile.FieldType) ∈ TB := tb_t 63 (by decide +kernel) (by decide +kernel)
theorem w64 : Cond.methodLink "LinearHistories$State" 3 ⟨"java/lang/Object", "<init>", "()V"⟩ ∈ TB := tb_t 64 (by decide +kernel) (by decide +kernel)
theorem w65 : Cond.fieldLink "LinearHistories$State" 9 "LinearHistories$State" "word" "J" ∈ TB := tb_t 65 (by decide +kernel) (by decide +kernel)
theorem w66 : Cond.fieldLink "LinearHistories$Space" 63 "LinearHistories$State" "word" "J" ∈ TB := tb_t 66 (by decide +kernel) (by decide +kernel)
theorem w67 : Cond.fieldLink "LinearHistories$State" 15 "LinearHistories$State" "size" "I" ∈ TB := tb_t 67 (by decide +kernel) (by decide +kernel)
theorem w68 : Cond.fieldLink "LinearHistories$Space" 104 "LinearHistories$State" "size" "I" ∈ TB := tb_t 68 (by decide +kernel) (by decide +kernel)
theorem w69 : Cond.fieldLink "LinearHistories$State" 23 "LinearHistories$State" "result" "I" ∈ TB := tb_t 69 (by decide +kernel) (by decide +kernel)
theorem w70 : Cond.fieldLink "LinearHistories$Space" 100 "LinearHistories$State" "result" "I" ∈ TB := tb_t 70 (by decide +kernel) (by decide +kernel)
theorem w71 : Cond.fieldLink "LinearHistories" 206 "LinearHistories$State" "result" "I" ∈ TB := tb_t 71 (by decide +kernel) (by decide +kernel)
theorem w79 : Cond.fieldLink "LinearHistories$Space" 12 "LinearHistories$Space" "table" "LLinearHistories$Table;" ∈ TB := tb_t 79 (by decide +kernel) (by decide +kernel)
theorem w80 : Cond.fieldLink "LinearHistories$Subject" 103 "LinearHistories$Space" "table" "LLinearHistories$Table;" ∈ TB := tb_t 80 (by decide +kernel) (by decide +kernel)
theorem w81 : Cond.fieldLink "LinearHistories$Space" 21 "LinearHistories$Space" "state" "LLinearHistories$State;" ∈ TB := tb_t 81 (by decide +kernel) (by decide +kernel)
theorem w82 : Cond.fieldLink "LinearHistories" 202 "LinearHistories$Space" "state" "LLinearHistories$State;" ∈ TB := tb_t 82 (by decide +kernel) (by decide +kernel)
theorem w83 : Cond.fieldLink "LinearHistories$Space" 25 "LinearHistories$Space" "ways" "[J" ∈ TB := tb_t 83 (by decide +kernel) (by decide +kernel)
theorem w84 : Cond.fieldLink "LinearHistories$Space" 29 "LinearHistories$Space" "hopeful" "[Z" ∈ TB := tb_t 84 (by decide +kernel) (by decide +kernel)
theorem w85 : Cond.fieldLink "LinearHistories" 198 "LinearHistories$Space" "hopeful" "[Z" ∈ TB := tb_t 85 (by decide +kernel) (by decide +kernel)
theorem w86 : Cond.fieldLink "LinearHistories$Space" 44 "LinearHistories$Space" "hopeMarked" "Z" ∈ TB := tb_t 86 (by decide +kernel) (by decide +kernel)
theorem w87 : Cond.fieldLink "LinearHistories$Space" 33 "LinearHistories$Space" "count" "I" ∈ TB := tb_t 87 (by decide +kernel) (by decide +kernel)
theorem w88 : Cond.fieldLink "LinearHistories$Space" 37 "LinearHistories$Space" "returned" "I" ∈ TB := tb_t 88 (by decide +kernel) (by decide +kernel)
theorem w89 : Cond.fieldLink "LinearHistories$Space" 40 "LinearHistories$Space" "own" "Z" ∈ TB := tb_t 89 (by decide +kernel) (by decide +kernel)
theorem w107 : Cond.arrayClass Jvm.ClassFile.FieldType.boolean ∈ TB := tb_t 107 (by decide +kernel) (by decide +kernel)
theorem w108 : Cond.methodLink "LinearHistories" 45 yAr_fill ∈ TB := tb_t 108 (by decide +kernel) (by decide +kernel)
theorem w109 : Cond.static yAr_fill ∈ TB := tb_t 109 (by decide +kernel) (by decide +kernel)
theorem w110 : Cond.code yAr_fill prog_16_method_103_code 4 (Option.none : Option Jvm.ClassFile.FieldType) ∈ TB := tb_t 110 (by decide +kernel) (by decide +kernel)
theorem w111 : Cond.fieldLink "LinearHistories" 11 "LinearHistories" "subjects" "[LLinearHistories$Subject;" ∈ TB := tb_t 111 (by decide +kernel) (by decide +kernel)
theorem w112 : Cond.fieldLink "LinearHistories" 15 "LinearHistories" "owners" "[I" ∈ TB := tb_t 112 (by decide +kernel) (by decide +kernel)
theorem w113 : Cond.fieldLink "LinearHistories" 19 "LinearHistories" "places" "[I" ∈ TB := tb_t 113 (by decide +kernel) (by decide +kernel)
theorem w114 : Cond.fieldLink "LinearHistories" 22 "LinearHistories" "earlier" "[J" ∈ TB := tb_t 114 (by decide +kernel) (by decide +kernel)
theorem w115 : Cond.fieldLink "LinearHistories" 26 "LinearHistories" "waiting" "[I" ∈ TB := tb_t 115 (by decide +kernel) (by decide +kernel)
theorem w116 : Cond.fieldLink "LinearHistories" 32 "LinearHistories" "scratch" "LLinearHistories$Space;" ∈ TB := tb_t 116 (by decide +kernel) (by decide +kernel)
theorem w117 : Cond.fieldLink "LinearHistories" 36 "LinearHistories" "rowNumbers" "[I" ∈ TB := tb_t 117 (by decide +kernel) (by decide +kernel)
theorem w118 : Cond.fieldLink "LinearHistories" 39 "LinearHistories" "rowResults" "[I" ∈ TB := tb_t 118 (by decide +kernel) (by decide +kernel)
theorem w119 : Cond.fieldLink "LinearHistories" 42 "LinearHistories" "reached" "[I" ∈ TB := tb_t 119 (by decide +kernel) (by decide +kernel)
theorem w120 : Cond.fieldLink "LinearHistories" 154 "LinearHistories" "rowLength" "I" ∈ TB := tb_t 120 (by decide +kernel) (by decide +kernel)
theorem w121 : Cond.fieldLink "LinearHistories" 67 "LinearHistories" "rowBuilt" "Z" ∈ TB := tb_t 121 (by decide +kernel) (by decide +kernel)
theorem w122 : Cond.fieldLink "LinearHistories" 58 "LinearHistories" "objectCount" "I" ∈ TB := tb_t 122 (by decide +kernel) (by decide +kernel)
theorem w123 : Cond.fieldLink "LinearHistories" 89 "LinearHistories" "operationCount" "I" ∈ TB := tb_t 123 (by decide +kernel) (by decide +kernel)
theorem w124 : Cond.fieldLink "LinearHistories" 103 "LinearHistories" "eventCount" "I" ∈ TB := tb_t 124 (by decide +kernel) (by decide +kernel)
theorem w125 : Cond.fieldLink "LinearHistories" 95 "LinearHistories" "cameBack" "J" ∈ TB := tb_t 125 (by decide +kernel) (by decide +kernel)
theorem w157 : Cond.methodLink "LinearHistoriesLaw" 85 yLH_clear ∈ TB := tb_t 157 (by decide +kernel) (by decide +kernel)
theorem w158 : Cond.instanceMethod yLH_clear ∈ TB := tb_t 158 (by decide +kernel) (by decide +kernel)
theorem w159 : Cond.selects "LinearHistories" yLH_clear yLH_clear ∈ TB := tb_t 159 (by decide +kernel) (by decide +kernel)
theorem w160 : Cond.code yLH_clear prog_1_method_6_code 2 (Option.some Jvm.ClassFile.FieldType.int) ∈ TB := tb_t 160 (by decide +kernel) (by decide +kernel)
theorem w161 : Cond.methodLink "LinearHistoriesLaw" 89 yLH_events ∈ TB := tb_t 161 (by decide +kernel) (by decide +kernel)
theorem w162 : Cond.instanceMethod yLH_events ∈ TB := tb_t 162 (by decide +kernel) (by decide +kernel)
theorem w163 : Cond.selects "LinearHistories" yLH_events yLH_events ∈ TB := tb_t 163 (by decide +kernel) (by decide +kernel)
theorem w164 : Cond.code yLH_events prog_1_method_7_code 1 (Option.some Jvm.ClassFile.FieldType.int) ∈ TB := tb_t 164 (by decide +kernel) (by decide +kernel)
theorem w165 : Cond.methodLink "LinearHistoriesLaw" 111 yLH_linear ∈ TB := tb_t 165 (by decide +kernel) (by decide +kernel)
theorem w166 : Cond.instanceMethod yLH_linear ∈ TB := tb_t 166 (by decide +kernel) (by decide +kernel)
theorem w167 : Cond.selects "LinearHistories" yLH_linear yLH_linear ∈ TB := tb_t 167 (by decide +kernel) (by decide +kernel)
theorem w168 : Cond.code yLH_linear prog_1_method_14_code 4 (Option.some Jvm.ClassFile.FieldType.int) ∈ TB := tb_t 168 (by decide +kernel) (by decide +kernel)
theorem w169 : Cond.methodLink "LinearHistories" 74 yLH_subjectOf ∈ TB := tb_t 169 (by decide +kernel) (by decide +kernel)
theorem w171 : Cond.instanceMethod yLH_subjectOf ∈ TB := tb_t 171 (by decide +kernel) (by decide +kernel)
theorem w172 : Cond.code yLH_subjectOf prog_1_method_22_code 2 (Option.some (Jvm.ClassFile.FieldType.object "LinearHistories$Subject")) ∈ TB := tb_t 172 (by decide +kernel) (by decide +kernel)
theorem w194 : Cond.fieldLink "java/lang/Throwable" 198 "java/lang/Throwable" "backtrace" "Ljava/lang/Object;" ∈ TB := tb_t 194 (by decide +kernel) (by decide +kernel)
theorem w198 : Cond.methodLink "java/lang/Throwable" 1 ⟨"java/lang/Object", "<init>", "()V"⟩ ∈ TB := tb_t 198 (by decide +kernel) (by decide +kernel)
theorem w240 : Cond.arrayClass Jvm.ClassFile.FieldType.byte ∈ TB := tb_t 240 (by decide +kernel) (by decide +kernel)
theorem w241 : Cond.methodLink "LinearHistories" 142 ySu_learn ∈ TB := tb_t 241 (by decide +kernel) (by decide +kernel)
theorem w242 : Cond.instanceMethod ySu_learn ∈ TB := tb_t 242 (by decide +kernel) (by decide +kernel)
theorem w243 : Cond.selects "LinearHistories$Subject" ySu_learn ySu_learn ∈ TB := tb_t 243 (by decide +kernel) (by decide +kernel)
theorem w244 : Cond.code ySu_learn prog_5_method_10_code 2 (Option.none : Option Jvm.ClassFile.FieldType) ∈ TB := tb_t 244 (by decide +kernel) (by decide +kernel)
theorem w245 : Cond.methodLink "LinearHistories$Subject" 99 ySp_explore ∈ TB := tb_t 245 (by decide +kernel) (by decide +kernel)
theorem w246 : Cond.instanceMethod ySp_explore ∈ TB := tb_t 246 (by decide +kernel) (by decide +kernel)
theorem w247 : Cond.selects "LinearHistories$Space" ySp_explore ySp_explore ∈ TB := tb_t 247 (by decide +kernel) (by decide +kernel)
theorem w248 : Cond.code ySp_explore prog_3_method_2_code 9 (Option.some Jvm.ClassFile.FieldType.boolean) ∈ TB := tb_t 248 (by decide +kernel) (by decide +kernel)
theorem w249 : Cond.methodLink "LinearHistories$Space" 47 yTa_makeEmpty ∈ TB := tb_t 249 (by decide +kernel) (by decide +kernel)
theorem w250 : Cond.instanceMethod yTa_makeEmpty ∈ TB := tb_t 250 (by decide +kernel) (by decide +kernel)
theorem w251 : Cond.selects "LinearHistories$Table" yTa_makeEmpty yTa_makeEmpty ∈ TB := tb_t 251 (by decide +kernel) (by decide +kernel)
theorem w252 : Cond.code yTa_makeEmpty prog_6_method_2_code 1 (Option.none : Option Jvm.ClassFile.FieldType) ∈ TB := tb_t 252 (by decide +kernel) (by decide +kernel)
theorem w253 : Cond.methodLink "LinearHistories$Table" 29 yAr_fill ∈ TB := tb_t 253 (by decide +kernel) (by decide +kernel)
theorem w254 : Cond.methodLink "LinearHistories$Space" 50 yTa_keep ∈ TB := tb_t 254 (by decide +kernel) (by decide +kernel)
theorem w255 : Cond.instanceMethod yTa_keep ∈ TB := tb_t 255 (by decide +kernel) (by decide +kernel)
theorem w256 : Cond.selects "LinearHistories$Table" yTa_keep yTa_keep ∈ TB := tb_t 256 (by decide +kernel) (by decide +kernel)
theorem w257 : Cond.code yTa_keep prog_6_method_4_code 6 (Option.some Jvm.ClassFile.FieldType.int) ∈ TB := tb_t 257 (by decide +kernel) (by decide +kernel)
theorem w258 : Cond.methodLink "LinearHistories$Table" 35 yTa_chainOf ∈ TB := tb_t 258 (by decide +kernel) (by decide +kernel)
theorem w260 : Cond.instanceMethod yTa_chainOf ∈ TB := tb_t 260 (by decide +kernel) (by decide +kernel)
theorem w261 : Cond.code yTa_chainOf prog_6_method_5_code 4 (Option.some Jvm.ClassFile.FieldType.int) ∈ TB := tb_t 261 (by decide +kernel) (by decide +kernel)
theorem w262 : Cond.constantLong "LinearHistories$Table" 43 (-7046029254386353131 : Int64) ∈ TB := tb_t 262 (by decide +kernel) (by decide +kernel)
theorem w263 : Cond.constantLong "LinearHistories$Table" 45 (-4417276706812531889 : Int64) ∈ TB := tb_t 263 (by decide +kernel) (by decide +kernel)
theorem w264 : Cond.methodLink "LinearHistories$Table" 39 yTa_findIn ∈ TB := tb_t 264 (by decide +kernel) (by decide +kernel)
theorem w266 : Cond.instanceMethod yTa_findIn ∈ TB := tb_t 266 (by decide +kernel) (by decide +kernel)
theorem w267 : Cond.code yTa_findIn prog_6_method_6_code 7 (Option.some Jvm.ClassFile.FieldType.int) ∈ TB := tb_t 267 (by decide +kernel) (by decide +kernel)
theorem w268 : Cond.methodLink "LinearHistories$Space" 55 ySp_step ∈ TB := tb_t 268 (by decide +kernel) (by decide +kernel)
theorem w270 : Cond.instanceMethod ySp_step ∈ TB := tb_t 270 (by decide +kernel) (by decide +kernel)
theorem w271 : Cond.code ySp_step prog_3_method_3_code 8 (Option.some Jvm.ClassFile.FieldType.boolean) ∈ TB := tb_t 271 (by decide +kernel) (by decide +kernel)
theorem w272 : Cond.constant "LinearHistories$Space" 71 (65535 : Int32) ∈ TB := tb_t 272 (by decide +kernel) (by decide +kernel)
theorem w273 : Cond.methodLink "LinearHistories$Space" 89 ySt_become ∈ TB := tb_t 273 (by decide +kernel) (by decide +kernel)
theorem w274 : Cond.instanceMethod ySt_become ∈ TB := tb_t 274 (by decide +kernel) (by decide +kernel)
theorem w275 : Cond.selects "LinearHistories$State" ySt_become ySt_become ∈ TB := tb_t 275 (by decide +kernel) (by decide +kernel)
theorem w276 : Cond.code ySt_become prog_4_method_2_code 4 (Option.none : Option Jvm.ClassFile.FieldType) ∈ TB := tb_t 276 (by decide +kernel) (by decide +kernel)
theorem w277 : Cond.methodLink "LinearHistories$Space" 96 ySt_change ∈ TB := tb_t 277 (by decide +kernel) (by decide +kernel)
theorem w278 : Cond.instanceMethod ySt_change ∈ TB := tb_t 278 (by decide +kernel) (by decide +kernel)
theorem w279 : Cond.selects "LinearHistories$State" ySt_change ySt_change ∈ TB := tb_t 279 (by decide +kernel) (by decide +kernel)
theorem w280 : Cond.code ySt_change prog_4_method_3_code 4 (Option.none : Option Jvm.ClassFile.FieldType) ∈ TB := tb_t 280 (by decide +kernel) (by decide +kernel)
theorem w281 : Cond.methodLink "LinearHistories$State" 19 ySt_changeRegister ∈ TB := tb_t 281 (by decide +kernel) (by decide +kernel)
theorem w283 : Cond.instanceMethod ySt_changeRegister ∈ TB := tb_t 283 (by decide +kernel) (by decide +kernel)
theorem w284 : Cond.code ySt_changeRegister prog_4_method_4_code 3 (Option.some Jvm.ClassFile.FieldType.int) ∈ TB := tb_t 284 (by decide +kernel) (by decide +kernel)
theorem w285 : Cond.methodLink "LinearHistories$State" 26 ySt_changeSet ∈ TB := tb_t 285 (by decide +kernel) (by decide +kernel)
theorem w287 : Cond.instanceMethod ySt_changeSet ∈ TB := tb_t 287 (by decide +kernel) (by decide +kernel)
theorem w288 : Cond.code ySt_changeSet prog_4_method_9_code 5 (Option.some Jvm.ClassFile.FieldType.int) ∈ TB := tb_t 288 (by decide +kernel) (by decide +kernel)
theorem w289 : Cond.constantLong "LinearHistories$State" 64 (-1 : Int64) ∈ TB := tb_t 289 (by decide +kernel) (by decide +kernel)
theorem w290 : Cond.methodLink "LinearHistories$State" 29 ySt_changeMap ∈ TB := tb_t 290 (by decide +kernel) (by decide +kernel)
theorem w292 : Cond.instanceMethod ySt_changeMap ∈ TB := tb_t 292 (by decide +kernel) (by decide +kernel)
theorem w293 : Cond.code ySt_changeMap prog_4_method_10_code 5 (Option.some Jvm.ClassFile.FieldType.int) ∈ TB := tb_t 293 (by decide +kernel) (by decide +kernel)
theorem w294 : Cond.constantLong "LinearHistories$State" 66 (31 : Int64) ∈ TB := tb_t 294 (by decide +kernel) (by decide +kernel)
theorem w295 : Cond.constant "LinearHistories$State" 59 (-2147483648 : Int32) ∈ TB := tb_t 295 (by decide +kernel) (by decide +kernel)
theorem w296 : Cond.methodLink "LinearHistories$State" 33 ySt_changeSequence ∈ TB := tb_t 296 (by decide +kernel) (by decide +kernel)
theorem w298 : Cond.instanceMethod ySt_changeSequence ∈ TB := tb_t 298 (by decide +kernel) (by decide +kernel)
theorem w299 : Cond.code ySt_changeSequence prog_4_method_5_code 4 (Option.some Jvm.ClassFile.FieldType.int) ∈ TB := tb_t 299 (by decide +kernel) (by decide +kernel)
theorem w300 : Cond.methodLink "LinearHistories$State" 48 ySt_placeInHeap ∈ TB := tb_t 300 (by decide +kernel) (by decide +kernel)
theorem w302 : Cond.instanceMethod ySt_placeInHeap ∈ TB := tb_t 302 (by decide +kernel) (by decide +kernel)
theorem w303 : Cond.code ySt_placeInHeap prog_4_method_6_code 6 (Option.some Jvm.ClassFile.FieldType.int) ∈ TB := tb_t 303 (by decide +kernel) (by decide +kernel)
theorem w304 : Cond.methodLink "LinearHistories$State" 55 ySt_insertAt ∈ TB := tb_t 304 (by decide +kernel) (by decide +kernel)
theorem w306 : Cond.instanceMethod ySt_insertAt ∈ TB := tb_t 306 (by decide +kernel) (by decide +kernel)
theorem w307 : Cond.code ySt_insertAt prog_4_method_7_code 8 (Option.none : Option Jvm.ClassFile.FieldType) ∈ TB := tb_t 307 (by decide +kernel) (by decide +kernel)
theorem w308 : Cond.methodLink "LinearHistories$State" 60 ySt_removeAt ∈ TB := tb_t 308 (by decide +kernel) (by decide +kernel)
theorem w310 : Cond.instanceMethod ySt_removeAt ∈ TB := tb_t 310 (by decide +kernel) (by decide +kernel)
theorem w311 : Cond.code ySt_removeAt prog_4_method_8_code 8 (Option.some Jvm.ClassFile.FieldType.int) ∈ TB := tb_t 311 (by decide +kernel) (by decide +kernel)
theorem w312 : Cond.methodLink "LinearHistories$Space" 59 ySp_keyBehind ∈ TB := tb_t 312 (by decide +kernel) (by decide +kernel)
theorem w314 : Cond.instanceMethod ySp_keyBehind ∈ TB := tb_t 314 (by decide +kernel) (by decide +kernel)
theorem w315 : Cond.code ySp_keyBehind prog_3_method_4_code 3 (Option.some Jvm.ClassFile.FieldType.int) ∈ TB := tb_t 315 (by decide +kernel) (by decide +kernel)
theorem w316 : Cond.methodLink "LinearHistories$Subject" 113 ySp_waysToEnds ∈ TB := tb_t 316 (by decide +kernel) (by decide +kernel)
theorem w317 : Cond.instanceMethod ySp_waysToEnds ∈ TB := tb_t 317 (by decide +kernel) (by decide +kernel)
theorem w318 : Cond.selects "LinearHistories$Space" ySp_waysToEnds ySp_waysToEnds ∈ TB := tb_t 318 (by decide +kernel) (by decide +kernel)
theorem w319 : Cond.code ySp_waysToEnds prog_3_method_7_code 4 (Option.some Jvm.ClassFile.FieldType.long) ∈ TB := tb_t 319 (by decide +kernel) (by decide +kernel)
theorem w320 : Cond.methodLink "LinearHistories$Space" 110 ySp_isEnd ∈ TB := tb_t 320 (by decide +kernel) (by decide +kernel)
theorem w321 : Cond.instanceMethod ySp_isEnd ∈ TB := tb_t 321 (by decide +kernel) (by decide +kernel)
theorem w322 : Cond.selects "LinearHistories$Space" ySp_isEnd ySp_isEnd ∈ TB := tb_t 322 (by decide +kernel) (by decide +kernel)
theorem w323 : Cond.code ySp_isEnd prog_3_method_6_code 2 (Option.some Jvm.ClassFile.FieldType.boolean) ∈ TB := tb_t 323 (by decide +kernel) (by decide +kernel)
theorem w324 : Cond.methodLink "LinearHistories$Subject" 121 ySp_statesAtEnds ∈ TB := tb_t 324 (by decide +kernel) (by decide +kernel)
theorem w325 : Cond.instanceMethod ySp_statesAtEnds ∈ TB := tb_t 325 (by decide +kernel) (by decide +kernel)
theorem w326 : Cond.selects "LinearHistories$Space" ySp_statesAtEnds ySp_statesAtEnds ∈ TB := tb_t 326 (by decide +kernel) (by decide +kernel)
theorem w327 : Cond.code ySp_statesAtEnds prog_3_method_8_code 3 (Option.some Jvm.ClassFile.FieldType.int) ∈ TB := tb_t 327 (by decide +kernel) (by decide +kernel)
theorem w328 : Cond.constantLong "LinearHistories$Subject" 131 (-2 : Int64) ∈ TB := tb_t 328 (by decide +kernel) (by decide +kernel)
theorem w329 : Cond.methodLink "LinearHistoriesLaw" 64 yLa_object ∈ TB := tb_t 329 (by decide +kernel) (by decide +kernel)
theorem w330 : Cond.static yLa_object ∈ TB := tb_t 330 (by decide +kernel) (by decide +kernel)
theorem w331 : Cond.codeWith yLa_object method_3_code 4 (Option.some Jvm.ClassFile.FieldType.int) [(0, 9, 12, 13)] ∈ TB := tb_t 331 (by decide +kernel) (by decide +kernel)
theorem w333 : Cond.methodLink "LinearHistoriesLaw" 7 yLH_object ∈ TB := tb_t 333 (by decide +kernel) (by decide +kernel)
theorem w334 : Cond.instanceMethod yLH_object ∈ TB := tb_t 334 (by decide +kernel) (by decide +kernel)
theorem w335 : Cond.selects "LinearHistories" yLH_object yLH_object ∈ TB := tb_t 335 (by decide +kernel) (by decide +kernel)
theorem w336 : Cond.code yLH_object prog_1_method_2_code 3 (Option.some Jvm.ClassFile.FieldType.int) ∈ TB := tb_t 336 (by decide +kernel) (by decide +kernel)
theorem w338 : Cond.instantiable "LinearHistories$Subject" 18 ∈ TB := tb_t 338 (by decide +kernel) (by decide +kernel)
theorem w339 : Cond.methodLink "LinearHistories" 62 ySu_init ∈ TB := tb_t 339 (by decide +kernel) (by decide +kernel)
theorem w340 : Cond.instanceMethod ySu_init ∈ TB := tb_t 340 (by decide +kernel) (by decide +kernel)
theorem w341 : Cond.code ySu_init prog_5_method_1_code 2 (Option.none : Option Jvm.ClassFile.FieldType) ∈ TB := tb_t 341 (by decide +kernel) (by decide +kernel)
theorem w342 : Cond.methodLink "LinearHistories$Subject" 3 ⟨"java/lang/Object", "<init>", "()V"⟩ ∈ TB := tb_t 342 (by decide +kernel) (by decide +kernel)
theorem w343 : Cond.classLink "LinearHistories$Subject" 9 "LinearHistories$Operation" ∈ TB := tb_t 343 (by decide +kernel) (by decide +kernel)
theorem w345 : Cond.classLink "LinearHistories$Subject" 17 "LinearHistories$Space" ∈ TB := tb_t 345 (by decide +kernel) (by decide +kernel)
theorem w347 : Cond.instantiable "LinearHistories$Operation" 8 ∈ TB := tb_t 347 (by decide +kernel) (by decide +kernel)
theorem w349 : Cond.instanceMethod yOp_init ∈ TB := tb_t 349 (by decide +kernel) (by decide +kernel)
theorem w350 : Cond.code yOp_init prog_2_method_1_code 1 (Option.none : Option Jvm.ClassFile.FieldType) ∈ TB := tb_t 350 (by decide +kernel) (by decide +kernel)
theorem w351 : Cond.methodLink "LinearHistories$Operation" 1 ⟨"java/lang/Object", "<init>", "()V"⟩ ∈ TB := tb_t 351 (by decide +kernel) (by decide +kernel)
theorem w352 : Cond.fieldLink "LinearHistories$Subject" 64 "LinearHistories$Operation" "process" "I" ∈ TB := tb_t 352 (by decide +kernel) (by decide +kernel)
theorem w353 : Cond.fieldLink "LinearHistories$State" 37 "LinearHistories$Operation" "code" "I" ∈ TB := tb_t 353 (by decide +kernel) (by decide +kernel)
theorem w354 : Cond.fieldLink "LinearHistories$Subject" 67 "LinearHistories$Operation" "code" "I" ∈ TB := tb_t 354 (by decide +kernel) (by decide +kernel)
theorem w355 : Cond.fieldLink "LinearHistories$State" 42 "LinearHistories$Operation" "a" "I" ∈ TB := tb_t 355 (by decide +kernel) (by decide +kernel)
theorem w356 : Cond.fieldLink "LinearHistories$Subject" 70 "LinearHistories$Operation" "a" "I" ∈ TB := tb_t 356 (by decide +kernel) (by decide +kernel)
theorem w357 : Cond.fieldLink "LinearHistories$State" 45 "LinearHistories$Operation" "b" "I" ∈ TB := tb_t 357 (by decide +kernel) (by decide +kernel)
theorem w358 : Cond.fieldLink "LinearHistories$Subject" 73 "LinearHistories$Operation" "b" "I" ∈ TB := tb_t 358 (by decide +kernel) (by decide +kernel)
theorem w359 : Cond.fieldLink "LinearHistories$State" 52 "LinearHistories$Operation" "name" "I" ∈ TB := tb_t 359 (by decide +kernel) (by decide +kernel)
theorem w360 : Cond.fieldLink "LinearHistories$Subject" 96 "LinearHistories$Operation" "name" "I" ∈ TB := tb_t 360 (by decide +kernel) (by decide +kernel)
theorem w361 : Cond.fieldLink "LinearHistories$Space" 103 "LinearHistories$Operation" "result" "I" ∈ TB := tb_t 361 (by decide +kernel) (by decide +kernel)
theorem w362 : Cond.fieldLink "LinearHistories$Subject" 76 "LinearHistories$Operation" "result" "I" ∈ TB := tb_t 362 (by decide +kernel) (by decide +kernel)
theorem w363 : Cond.fieldLink "LinearHistories$Space" 83 "LinearHistories$Operation" "earlier" "I" ∈ TB := tb_t 363 (by decide +kernel) (by decide +kernel)
theorem w364 : Cond.fieldLink "LinearHistories$Subject" 79 "LinearHistories$Operation" "earlier" "I" ∈ TB := tb_t 364 (by decide +kernel) (by decide +kernel)
theorem w365 : Cond.fieldLink "LinearHistories$Space" 78 "LinearHistories$Operation" "ownEarlier" "I" ∈ TB := tb_t 365 (by decide +kernel) (by decide +kernel)
theorem w366 : Cond.fieldLink "LinearHistories$Subject" 86 "LinearHistories$Operation" "ownEarlier" "I" ∈ TB := tb_t 366 (by decide +kernel) (by decide +kernel)
theorem w384 : Cond.fieldLink "LinearHistories$Subject" 11 "LinearHistories$Subject" "operations" "[LLinearHistories$Operation;" ∈ TB := tb_t 384 (by decide +kernel) (by decide +kernel)
theorem w385 : Cond.fieldLink "LinearHistories$Space" 72 "LinearHistories$Subject" "operations" "[LLinearHistories$Operation;" ∈ TB := tb_t 385 (by decide +kernel) (by decide +kernel)
theorem w386 : Cond.fieldLink "LinearHistories$Subject" 20 "LinearHistories$Subject" "space" "LLinearHistories$Space;" ∈ TB := tb_t 386 (by decide +kernel) (by decide +kernel)
theorem w387 : Cond.fieldLink "LinearHistories" 173 "LinearHistories$Subject" "space" "LLinearHistories$Space;" ∈ TB := tb_t 387 (by decide +kernel) (by decide +kernel)
end
section
theorem w388 : Cond.fieldLink "LinearHistories$Subject" 24 "LinearHistories$Subject" "backEvents" "[I" ∈ TB := tb_t 388 (by decide +kernel) (by decide +kernel)
theorem w389 : Cond.fieldLink "LinearHistories$Subject" 28 "LinearHistories$Subject" "backCounts" "[I" ∈ TB := tb_t 389 (by decide +kernel) (by decide +kernel)
theorem w390 : Cond.fieldLink "LinearHistories$Subject" 31 "LinearHistories$Subject" "backSets" "[I" ∈ TB := tb_t 390 (by decide +kernel) (by decide +kernel)
theorem w391 : Cond.fieldLink "LinearHistories$Subject" 35 "LinearHistories$Subject" "kind" "I" ∈ TB := tb_t 391 (by decide +kernel) (by decide +kernel)
theorem w392 : Cond.fieldLink "LinearHistories$Space" 93 "LinearHistories$Subject" "kind" "I" ∈ TB := tb_t 392 (by decide +kernel) (by decide +kernel)
theorem w393 : Cond.fieldLink "LinearHistories$Subject" 39 "LinearHistories$Subject" "count" "I" ∈ TB := tb_t 393 (by decide +kernel) (by decide +kernel)
theorem w394 : Cond.fieldLink "LinearHistories" 92 "LinearHistories$Subject" "count" "I" ∈ TB := tb_t 394 (by decide +kernel) (by decide +kernel)
theorem w395 : Cond.fieldLink "LinearHistories$Subject" 42 "LinearHistories$Subject" "backs" "I" ∈ TB := tb_t 395 (by decide +kernel) (by decide +kernel)
theorem w396 : Cond.fieldLink "LinearHistories$Subject" 45 "LinearHistories$Subject" "returned" "I" ∈ TB := tb_t 396 (by decide +kernel) (by decide +kernel)
theorem w397 : Cond.fieldLink "LinearHistories$Subject" 57 "LinearHistories$Subject" "learned" "Z" ∈ TB := tb_t 397 (by decide +kernel) (by decide +kernel)
theorem w398 : Cond.fieldLink "LinearHistories" 117 "LinearHistories$Subject" "possibilityCount" "I" ∈ TB := tb_t 398 (by decide +kernel) (by decide +kernel)
theorem w399 : Cond.fieldLink "LinearHistories$Subject" 110 "LinearHistories$Subject" "possibilityCount" "I" ∈ TB := tb_t 399 (by decide +kernel) (by decide +kernel)
theorem w400 : Cond.fieldLink "LinearHistories" 120 "LinearHistories$Subject" "judgement" "I" ∈ TB := tb_t 400 (by decide +kernel) (by decide +kernel)
theorem w401 : Cond.fieldLink "LinearHistories$Subject" 128 "LinearHistories$Subject" "judgement" "I" ∈ TB := tb_t 401 (by decide +kernel) (by decide +kernel)
theorem w402 : Cond.fieldLink "LinearHistories$Subject" 117 "LinearHistories$Subject" "wayCount" "J" ∈ TB := tb_t 402 (by decide +kernel) (by decide +kernel)
theorem w403 : Cond.fieldLink "LinearHistories" 130 "LinearHistories$Subject" "wayCount" "J" ∈ TB := tb_t 403 (by decide +kernel) (by decide +kernel)
theorem w404 : Cond.fieldLink "LinearHistories$Subject" 125 "LinearHistories$Subject" "lastCount" "I" ∈ TB := tb_t 404 (by decide +kernel) (by decide +kernel)
theorem w405 : Cond.fieldLink "LinearHistories" 133 "LinearHistories$Subject" "lastCount" "I" ∈ TB := tb_t 405 (by decide +kernel) (by decide +kernel)
theorem w406 : Cond.fieldLink "LinearHistories$Subject" 61 "LinearHistories$Subject" "ownLearned" "Z" ∈ TB := tb_t 406 (by decide +kernel) (by decide +kernel)
theorem w407 : Cond.fieldLink "LinearHistories" 127 "LinearHistories$Subject" "ownJudgement" "I" ∈ TB := tb_t 407 (by decide +kernel) (by decide +kernel)
theorem w408 : Cond.fieldLink "LinearHistories$Subject" 133 "LinearHistories$Subject" "ownJudgement" "I" ∈ TB := tb_t 408 (by decide +kernel) (by decide +kernel)
theorem w409 : Cond.fieldLink "LinearHistories$Subject" 48 "LinearHistories$Subject" "backsLearned" "I" ∈ TB := tb_t 409 (by decide +kernel) (by decide +kernel)
theorem w410 : Cond.fieldLink "LinearHistories$Subject" 51 "LinearHistories$Subject" "brokenAt" "I" ∈ TB := tb_t 410 (by decide +kernel) (by decide +kernel)
theorem w411 : Cond.fieldLink "LinearHistories" 139 "LinearHistories$Subject" "brokenAt" "I" ∈ TB := tb_t 411 (by decide +kernel) (by decide +kernel)
theorem w449 : Cond.methodLink "LinearHistories" 63 ySu_begin ∈ TB := tb_t 449 (by decide +kernel) (by decide +kernel)
theorem w450 : Cond.instanceMethod ySu_begin ∈ TB := tb_t 450 (by decide +kernel) (by decide +kernel)
theorem w451 : Cond.selects "LinearHistories$Subject" ySu_begin ySu_begin ∈ TB := tb_t 451 (by decide +kernel) (by decide +kernel)
theorem w452 : Cond.code ySu_begin prog_5_method_2_code 2 (Option.none : Option Jvm.ClassFile.FieldType) ∈ TB := tb_t 452 (by decide +kernel) (by decide +kernel)
theorem w453 : Cond.methodLink "LinearHistories$Subject" 54 ySu_forget ∈ TB := tb_t 453 (by decide +kernel) (by decide +kernel)
theorem w454 : Cond.instanceMethod ySu_forget ∈ TB := tb_t 454 (by decide +kernel) (by decide +kernel)
theorem w455 : Cond.selects "LinearHistories$Subject" ySu_forget ySu_forget ∈ TB := tb_t 455 (by decide +kernel) (by decide +kernel)
theorem w456 : Cond.code ySu_forget prog_5_method_3_code 1 (Option.none : Option Jvm.ClassFile.FieldType) ∈ TB := tb_t 456 (by decide +kernel) (by decide +kernel)
theorem w457 : Cond.methodLink "LinearHistoriesLaw" 73 yLa_call ∈ TB := tb_t 457 (by decide +kernel) (by decide +kernel)
theorem w458 : Cond.static yLa_call ∈ TB := tb_t 458 (by decide +kernel) (by decide +kernel)
theorem w459 : Cond.codeWith yLa_call method_4_code 8 (Option.some Jvm.ClassFile.FieldType.int) [(0, 16, 19, 13), (0, 16, 23, 19)] ∈ TB := tb_t 459 (by decide +kernel) (by decide +kernel)
theorem w461 : Cond.methodLink "LinearHistoriesLaw" 15 yLH_call ∈ TB := tb_t 461 (by decide +kernel) (by decide +kernel)
theorem w462 : Cond.instanceMethod yLH_call ∈ TB := tb_t 462 (by decide +kernel) (by decide +kernel)
theorem w463 : Cond.selects "LinearHistories" yLH_call yLH_call ∈ TB := tb_t 463 (by decide +kernel) (by decide +kernel)
theorem w464 : Cond.code yLH_call prog_1_method_3_code 8 (Option.some Jvm.ClassFile.FieldType.int) ∈ TB := tb_t 464 (by decide +kernel) (by decide +kernel)
theorem w465 : Cond.methodLink "LinearHistories" 71 yLH_checkProcess ∈ TB := tb_t 465 (by decide +kernel) (by decide +kernel)
theorem w467 : Cond.instanceMethod yLH_checkProcess ∈ TB := tb_t 467 (by decide +kernel) (by decide +kernel)
theorem w468 : Cond.code yLH_checkProcess prog_1_method_20_code 2 (Option.none : Option Jvm.ClassFile.FieldType) ∈ TB := tb_t 468 (by decide +kernel) (by decide +kernel)
theorem w470 : Cond.methodLink "LinearHistories" 78 ySu_operationsOfKind ∈ TB := tb_t 470 (by decide +kernel) (by decide +kernel)
theorem w471 : Cond.instanceMethod ySu_operationsOfKind ∈ TB := tb_t 471 (by decide +kernel) (by decide +kernel)
theorem w472 : Cond.selects "LinearHistories$Subject" ySu_operationsOfKind ySu_operationsOfKind ∈ TB := tb_t 472 (by decide +kernel) (by decide +kernel)
theorem w473 : Cond.code ySu_operationsOfKind prog_5_method_4_code 1 (Option.some Jvm.ClassFile.FieldType.int) ∈ TB := tb_t 473 (by decide +kernel) (by decide +kernel)
theorem w491 : Cond.methodLink "LinearHistories" 99 ySu_addOperation ∈ TB := tb_t 491 (by decide +kernel) (by decide +kernel)
theorem w492 : Cond.instanceMethod ySu_addOperation ∈ TB := tb_t 492 (by decide +kernel) (by decide +kernel)
theorem w493 : Cond.selects "LinearHistories$Subject" ySu_addOperation ySu_addOperation ∈ TB := tb_t 493 (by decide +kernel) (by decide +kernel)
theorem w494 : Cond.code ySu_addOperation prog_5_method_5_code 6 (Option.none : Option Jvm.ClassFile.FieldType) ∈ TB := tb_t 494 (by decide +kernel) (by decide +kernel)
theorem w495 : Cond.methodLink "LinearHistories$Subject" 82 ySu_placesOf ∈ TB := tb_t 495 (by decide +kernel) (by decide +kernel)
theorem w496 : Cond.instanceMethod ySu_placesOf ∈ TB := tb_t 496 (by decide +kernel) (by decide +kernel)
theorem w497 : Cond.selects "LinearHistories$Subject" ySu_placesOf ySu_placesOf ∈ TB := tb_t 497 (by decide +kernel) (by decide +kernel)
theorem w498 : Cond.code ySu_placesOf prog_5_method_6_code 4 (Option.some Jvm.ClassFile.FieldType.int) ∈ TB := tb_t 498 (by decide +kernel) (by decide +kernel)
theorem w499 : Cond.methodLink "LinearHistories$Subject" 89 ySu_numberOf ∈ TB := tb_t 499 (by decide +kernel) (by decide +kernel)
theorem w500 : Cond.instanceMethod ySu_numberOf ∈ TB := tb_t 500 (by decide +kernel) (by decide +kernel)
theorem w501 : Cond.selects "LinearHistories$Subject" ySu_numberOf ySu_numberOf ∈ TB := tb_t 501 (by decide +kernel) (by decide +kernel)
theorem w502 : Cond.code ySu_numberOf prog_5_method_8_code 2 (Option.some Jvm.ClassFile.FieldType.int) ∈ TB := tb_t 502 (by decide +kernel) (by decide +kernel)
theorem w503 : Cond.methodLink "LinearHistories$Subject" 93 ySu_nameOf ∈ TB := tb_t 503 (by decide +kernel) (by decide +kernel)
theorem w504 : Cond.instanceMethod ySu_nameOf ∈ TB := tb_t 504 (by decide +kernel) (by decide +kernel)
theorem w505 : Cond.selects "LinearHistories$Subject" ySu_nameOf ySu_nameOf ∈ TB := tb_t 505 (by decide +kernel) (by decide +kernel)
theorem w506 : Cond.code ySu_nameOf prog_5_method_7_code 3 (Option.some Jvm.ClassFile.FieldType.int) ∈ TB := tb_t 506 (by decide +kernel) (by decide +kernel)
theorem w507 : Cond.methodLink "LinearHistoriesLaw" 77 yLa_back ∈ TB := tb_t 507 (by decide +kernel) (by decide +kernel)
theorem w508 : Cond.static yLa_back ∈ TB := tb_t 508 (by decide +kernel) (by decide +kernel)
theorem w509 : Cond.codeWith yLa_back method_5_code 4 (Option.some Jvm.ClassFile.FieldType.int) [(0, 6, 9, 13), (0, 6, 12, 19)] ∈ TB := tb_t 509 (by decide +kernel) (by decide +kernel)
theorem w510 : Cond.methodLink "LinearHistoriesLaw" 21 yLH_back ∈ TB := tb_t 510 (by decide +kernel) (by decide +kernel)
theorem w511 : Cond.instanceMethod yLH_back ∈ TB := tb_t 511 (by decide +kernel) (by decide +kernel)
theorem w512 : Cond.selects "LinearHistories" yLH_back yLH_back ∈ TB := tb_t 512 (by decide +kernel) (by decide +kernel)
theorem w513 : Cond.code yLH_back prog_1_method_4_code 4 (Option.none : Option Jvm.ClassFile.FieldType) ∈ TB := tb_t 513 (by decide +kernel) (by decide +kernel)
theorem w514 : Cond.methodLink "LinearHistories" 106 yLH_operationOf ∈ TB := tb_t 514 (by decide +kernel) (by decide +kernel)
theorem w516 : Cond.instanceMethod yLH_operationOf ∈ TB := tb_t 516 (by decide +kernel) (by decide +kernel)
theorem w517 : Cond.code yLH_operationOf prog_1_method_21_code 2 (Option.some Jvm.ClassFile.FieldType.int) ∈ TB := tb_t 517 (by decide +kernel) (by decide +kernel)
theorem w519 : Cond.methodLink "LinearHistories" 110 ySu_endOperation ∈ TB := tb_t 519 (by decide +kernel) (by decide +kernel)
theorem w520 : Cond.instanceMethod ySu_endOperation ∈ TB := tb_t 520 (by decide +kernel) (by decide +kernel)
theorem w521 : Cond.selects "LinearHistories$Subject" ySu_endOperation ySu_endOperation ∈ TB := tb_t 521 (by decide +kernel) (by decide +kernel)
theorem w522 : Cond.code ySu_endOperation prog_5_method_9_code 4 (Option.none : Option Jvm.ClassFile.FieldType) ∈ TB := tb_t 522 (by decide +kernel) (by decide +kernel)
theorem w523 : Cond.methodLink "LinearHistoriesLaw" 81 yLa_lose ∈ TB := tb_t 523 (by decide +kernel) (by decide +kernel)
theorem w524 : Cond.static yLa_lose ∈ TB := tb_t 524 (by decide +kernel) (by decide +kernel)
theorem w525 : Cond.codeWith yLa_lose method_6_code 3 (Option.some Jvm.ClassFile.FieldType.int) [(0, 5, 8, 13), (0, 5, 11, 19)] ∈ TB := tb_t 525 (by decide +kernel) (by decide +kernel)
theorem w526 : Cond.methodLink "LinearHistoriesLaw" 25 yLH_lose ∈ TB := tb_t 526 (by decide +kernel) (by decide +kernel)
theorem w527 : Cond.instanceMethod yLH_lose ∈ TB := tb_t 527 (by decide +kernel) (by decide +kernel)
theorem w528 : Cond.selects "LinearHistories" yLH_lose yLH_lose ∈ TB := tb_t 528 (by decide +kernel) (by decide +kernel)
theorem w529 : Cond.code yLH_lose prog_1_method_5_code 2 (Option.none : Option Jvm.ClassFile.FieldType) ∈ TB := tb_t 529 (by decide +kernel) (by decide +kernel)
theorem w530 : Cond.methodLink "LinearHistoriesLaw" 93 yLa_possibilities ∈ TB := tb_t 530 (by decide +kernel) (by decide +kernel)
theorem w531 : Cond.static yLa_possibilities ∈ TB := tb_t 531 (by decide +kernel) (by decide +kernel)
theorem w532 : Cond.codeWith yLa_possibilities method_7_code 4 (Option.some Jvm.ClassFile.FieldType.int) [(0, 9, 12, 13)] ∈ TB := tb_t 532 (by decide +kernel) (by decide +kernel)
theorem w533 : Cond.methodLink "LinearHistoriesLaw" 29 yLH_possibilities ∈ TB := tb_t 533 (by decide +kernel) (by decide +kernel)
theorem w534 : Cond.instanceMethod yLH_possibilities ∈ TB := tb_t 534 (by decide +kernel) (by decide +kernel)
theorem w535 : Cond.selects "LinearHistories" yLH_possibilities yLH_possibilities ∈ TB := tb_t 535 (by decide +kernel) (by decide +kernel)
theorem w536 : Cond.code yLH_possibilities prog_1_method_8_code 2 (Option.some Jvm.ClassFile.FieldType.int) ∈ TB := tb_t 536 (by decide +kernel) (by decide +kernel)
theorem w537 : Cond.methodLink "LinearHistories" 114 yLH_learnedSubject ∈ TB := tb_t 537 (by decide +kernel) (by decide +kernel)
theorem w539 : Cond.instanceMethod yLH_learnedSubject ∈ TB := tb_t 539 (by decide +kernel) (by decide +kernel)
theorem w540 : Cond.code yLH_learnedSubject prog_1_method_23_code 3 (Option.some (Jvm.ClassFile.FieldType.object "LinearHistories$Subject")) ∈ TB := tb_t 540 (by decide +kernel) (by decide +kernel)
theorem w541 : Cond.methodLink "LinearHistoriesLaw" 96 yLa_judge ∈ TB := tb_t 541 (by decide +kernel) (by decide +kernel)
theorem w542 : Cond.static yLa_judge ∈ TB := tb_t 542 (by decide +kernel) (by decide +kernel)
theorem w543 : Cond.codeWith yLa_judge method_8_code 4 (Option.some Jvm.ClassFile.FieldType.int) [(0, 9, 12, 13)] ∈ TB := tb_t 543 (by decide +kernel) (by decide +kernel)
theorem w544 : Cond.methodLink "LinearHistoriesLaw" 32 yLH_judge ∈ TB := tb_t 544 (by decide +kernel) (by decide +kernel)
theorem w545 : Cond.instanceMethod yLH_judge ∈ TB := tb_t 545 (by decide +kernel) (by decide +kernel)
theorem w546 : Cond.selects "LinearHistories" yLH_judge yLH_judge ∈ TB := tb_t 546 (by decide +kernel) (by decide +kernel)
theorem w547 : Cond.code yLH_judge prog_1_method_9_code 2 (Option.some Jvm.ClassFile.FieldType.int) ∈ TB := tb_t 547 (by decide +kernel) (by decide +kernel)
theorem w548 : Cond.methodLink "LinearHistoriesLaw" 99 yLa_judgeOwn ∈ TB := tb_t 548 (by decide +kernel) (by decide +kernel)
theorem w549 : Cond.static yLa_judgeOwn ∈ TB := tb_t 549 (by decide +kernel) (by decide +kernel)
theorem w550 : Cond.codeWith yLa_judgeOwn method_9_code 4 (Option.some Jvm.ClassFile.FieldType.int) [(0, 9, 12, 13)] ∈ TB := tb_t 550 (by decide +kernel) (by decide +kernel)
theorem w551 : Cond.methodLink "LinearHistoriesLaw" 35 yLH_judgeOwn ∈ TB := tb_t 551 (by decide +kernel) (by decide +kernel)
theorem w552 : Cond.instanceMethod yLH_judgeOwn ∈ TB := tb_t 552 (by decide +kernel) (by decide +kernel)
theorem w553 : Cond.selects "LinearHistories" yLH_judgeOwn yLH_judgeOwn ∈ TB := tb_t 553 (by decide +kernel) (by decide +kernel)
theorem w554 : Cond.code yLH_judgeOwn prog_1_method_10_code 3 (Option.some Jvm.ClassFile.FieldType.int) ∈ TB := tb_t 554 (by decide +kernel) (by decide +kernel)
theorem w555 : Cond.methodLink "LinearHistories" 123 ySu_learnOwn ∈ TB := tb_t 555 (by decide +kernel) (by decide +kernel)
theorem w556 : Cond.instanceMethod ySu_learnOwn ∈ TB := tb_t 556 (by decide +kernel) (by decide +kernel)
theorem w557 : Cond.selects "LinearHistories$Subject" ySu_learnOwn ySu_learnOwn ∈ TB := tb_t 557 (by decide +kernel) (by decide +kernel)
theorem w558 : Cond.code ySu_learnOwn prog_5_method_11_code 2 (Option.none : Option Jvm.ClassFile.FieldType) ∈ TB := tb_t 558 (by decide +kernel) (by decide +kernel)
theorem w559 : Cond.methodLink "LinearHistoriesLaw" 102 yLa_ways ∈ TB := tb_t 559 (by decide +kernel) (by decide +kernel)
theorem w560 : Cond.static yLa_ways ∈ TB := tb_t 560 (by decide +kernel) (by decide +kernel)
theorem w561 : Cond.codeWith yLa_ways method_10_code 4 (Option.some Jvm.ClassFile.FieldType.int) [(0, 8, 11, 13)] ∈ TB := tb_t 561 (by decide +kernel) (by decide +kernel)
theorem w562 : Cond.methodLink "LinearHistoriesLaw" 38 yLH_ways ∈ TB := tb_t 562 (by decide +kernel) (by decide +kernel)
theorem w563 : Cond.instanceMethod yLH_ways ∈ TB := tb_t 563 (by decide +kernel) (by decide +kernel)
theorem w564 : Cond.selects "LinearHistories" yLH_ways yLH_ways ∈ TB := tb_t 564 (by decide +kernel) (by decide +kernel)
theorem w565 : Cond.code yLH_ways prog_1_method_11_code 2 (Option.some Jvm.ClassFile.FieldType.long) ∈ TB := tb_t 565 (by decide +kernel) (by decide +kernel)
theorem w566 : Cond.methodLink "LinearHistoriesLaw" 105 yLa_lasts ∈ TB := tb_t 566 (by decide +kernel) (by decide +kernel)
theorem w567 : Cond.static yLa_lasts ∈ TB := tb_t 567 (by decide +kernel) (by decide +kernel)
theorem w568 : Cond.codeWith yLa_lasts method_11_code 4 (Option.some Jvm.ClassFile.FieldType.int) [(0, 9, 12, 13)] ∈ TB := tb_t 568 (by decide +kernel) (by decide +kernel)
theorem w569 : Cond.methodLink "LinearHistoriesLaw" 42 yLH_lasts ∈ TB := tb_t 569 (by decide +kernel) (by decide +kernel)
theorem w570 : Cond.instanceMethod yLH_lasts ∈ TB := tb_t 570 (by decide +kernel) (by decide +kernel)
theorem w571 : Cond.selects "LinearHistories" yLH_lasts yLH_lasts ∈ TB := tb_t 571 (by decide +kernel) (by decide +kernel)
theorem w572 : Cond.code yLH_lasts prog_1_method_12_code 2 (Option.some Jvm.ClassFile.FieldType.int) ∈ TB := tb_t 572 (by decide +kernel) (by decide +kernel)
theorem w573 : Cond.methodLink "LinearHistoriesLaw" 108 yLa_broken ∈ TB := tb_t 573 (by decide +kernel) (by decide +kernel)
theorem w574 : Cond.static yLa_broken ∈ TB := tb_t 574 (by decide +kernel) (by decide +kernel)
theorem w575 : Cond.codeWith yLa_broken method_12_code 4 (Option.some Jvm.ClassFile.FieldType.int) [(0, 9, 12, 13)] ∈ TB := tb_t 575 (by decide +kernel) (by decide +kernel)
theorem w576 : Cond.methodLink "LinearHistoriesLaw" 45 yLH_broken ∈ TB := tb_t 576 (by decide +kernel) (by decide +kernel)
theorem w577 : Cond.instanceMethod yLH_broken ∈ TB := tb_t 577 (by decide +kernel) (by decide +kernel)
theorem w578 : Cond.selects "LinearHistories" yLH_broken yLH_broken ∈ TB := tb_t 578 (by decide +kernel) (by decide +kernel)
theorem w579 : Cond.code yLH_broken prog_1_method_13_code 3 (Option.some Jvm.ClassFile.FieldType.int) ∈ TB := tb_t 579 (by decide +kernel) (by decide +kernel)
theorem w580 : Cond.methodLink "LinearHistories" 136 ySu_learnBreak ∈ TB := tb_t 580 (by decide +kernel) (by decide +kernel)
theorem w581 : Cond.instanceMethod ySu_learnBreak ∈ TB := tb_t 581 (by decide +kernel) (by decide +kernel)
theorem w582 : Cond.selects "LinearHistories$Subject" ySu_learnBreak ySu_learnBreak ∈ TB := tb_t 582 (by decide +kernel) (by decide +kernel)
theorem w583 : Cond.code ySu_learnBreak prog_5_method_12_code 5 (Option.none : Option Jvm.ClassFile.FieldType) ∈ TB := tb_t 583 (by decide +kernel) (by decide +kernel)
theorem w584 : Cond.methodLink "LinearHistories$Subject" 136 ySu_learn ∈ TB := tb_t 584 (by decide +kernel) (by decide +kernel)
theorem w585 : Cond.methodLink "LinearHistoriesLaw" 115 yLa_length ∈ TB := tb_t 585 (by decide +kernel) (by decide +kernel)
theorem w586 : Cond.static yLa_length ∈ TB := tb_t 586 (by decide +kernel) (by decide +kernel)
theorem w587 : Cond.codeWith yLa_length method_13_code 3 (Option.some Jvm.ClassFile.FieldType.int) [(0, 8, 11, 19)] ∈ TB := tb_t 587 (by decide +kernel) (by decide +kernel)
theorem w588 : Cond.methodLink "LinearHistoriesLaw" 48 yLH_length ∈ TB := tb_t 588 (by decide +kernel) (by decide +kernel)
theorem w589 : Cond.instanceMethod yLH_length ∈ TB := tb_t 589 (by decide +kernel) (by decide +kernel)
theorem w590 : Cond.selects "LinearHistories" yLH_length yLH_length ∈ TB := tb_t 590 (by decide +kernel) (by decide +kernel)
theorem w591 : Cond.code yLH_length prog_1_method_15_code 1 (Option.some Jvm.ClassFile.FieldType.int) ∈ TB := tb_t 591 (by decide +kernel) (by decide +kernel)
theorem w592 : Cond.methodLink "LinearHistories" 145 yLH_linear ∈ TB := tb_t 592 (by decide +kernel) (by decide +kernel)
theorem w593 : Cond.methodLink "LinearHistories" 148 yLH_checkLinear ∈ TB := tb_t 593 (by decide +kernel) (by decide +kernel)
theorem w595 : Cond.instanceMethod yLH_checkLinear ∈ TB := tb_t 595 (by decide +kernel) (by decide +kernel)
theorem w596 : Cond.code yLH_checkLinear prog_1_method_18_code 2 (Option.none : Option Jvm.ClassFile.FieldType) ∈ TB := tb_t 596 (by decide +kernel) (by decide +kernel)
theorem w598 : Cond.methodLink "LinearHistories" 151 yLH_buildRow ∈ TB := tb_t 598 (by decide +kernel) (by decide +kernel)
theorem w600 : Cond.instanceMethod yLH_buildRow ∈ TB := tb_t 600 (by decide +kernel) (by decide +kernel)
theorem w601 : Cond.code yLH_buildRow prog_1_method_24_code 4 (Option.none : Option Jvm.ClassFile.FieldType) ∈ TB := tb_t 601 (by decide +kernel) (by decide +kernel)
theorem w602 : Cond.methodLink "LinearHistories" 176 ySp_markHopeful ∈ TB := tb_t 602 (by decide +kernel) (by decide +kernel)
theorem w603 : Cond.instanceMethod ySp_markHopeful ∈ TB := tb_t 603 (by decide +kernel) (by decide +kernel)
theorem w604 : Cond.selects "LinearHistories$Space" ySp_markHopeful ySp_markHopeful ∈ TB := tb_t 604 (by decide +kernel) (by decide +kernel)
theorem w605 : Cond.code ySp_markHopeful prog_3_method_9_code 6 (Option.none : Option Jvm.ClassFile.FieldType) ∈ TB := tb_t 605 (by decide +kernel) (by decide +kernel)
theorem w606 : Cond.methodLink "LinearHistories$Space" 114 ySp_target ∈ TB := tb_t 606 (by decide +kernel) (by decide +kernel)
theorem w607 : Cond.instanceMethod ySp_target ∈ TB := tb_t 607 (by decide +kernel) (by decide +kernel)
theorem w608 : Cond.selects "LinearHistories$Space" ySp_target ySp_target ∈ TB := tb_t 608 (by decide +kernel) (by decide +kernel)
theorem w609 : Cond.code ySp_target prog_3_method_5_code 4 (Option.some Jvm.ClassFile.FieldType.int) ∈ TB := tb_t 609 (by decide +kernel) (by decide +kernel)
theorem w610 : Cond.methodLink "LinearHistories$Space" 107 yTa_find ∈ TB := tb_t 610 (by decide +kernel) (by decide +kernel)
theorem w611 : Cond.instanceMethod yTa_find ∈ TB := tb_t 611 (by decide +kernel) (by decide +kernel)
theorem w612 : Cond.selects "LinearHistories$Table" yTa_find yTa_find ∈ TB := tb_t 612 (by decide +kernel) (by decide +kernel)
theorem w613 : Cond.code yTa_find prog_6_method_3_code 4 (Option.some Jvm.ClassFile.FieldType.int) ∈ TB := tb_t 613 (by decide +kernel) (by decide +kernel)
theorem w614 : Cond.methodLink "LinearHistories" 180 yLH_allAtEnds ∈ TB := tb_t 614 (by decide +kernel) (by decide +kernel)
theorem w616 : Cond.instanceMethod yLH_allAtEnds ∈ TB := tb_t 616 (by decide +kernel) (by decide +kernel)
theorem w617 : Cond.code yLH_allAtEnds prog_1_method_25_code 2 (Option.some Jvm.ClassFile.FieldType.boolean) ∈ TB := tb_t 617 (by decide +kernel) (by decide +kernel)
theorem w618 : Cond.methodLink "LinearHistories" 188 ySp_isEnd ∈ TB := tb_t 618 (by decide +kernel) (by decide +kernel)
theorem w619 : Cond.methodLink "LinearHistories" 184 yLH_placeNext ∈ TB := tb_t 619 (by decide +kernel) (by decide +kernel)
theorem w621 : Cond.instanceMethod yLH_placeNext ∈ TB := tb_t 621 (by decide +kernel) (by decide +kernel)
theorem w622 : Cond.code yLH_placeNext prog_1_method_26_code 8 (Option.some Jvm.ClassFile.FieldType.int) ∈ TB := tb_t 622 (by decide +kernel) (by decide +kernel)
theorem w623 : Cond.constantLong "LinearHistories" 192 (-1 : Int64) ∈ TB := tb_t 623 (by decide +kernel) (by decide +kernel)
theorem w624 : Cond.methodLink "LinearHistories" 194 ySp_target ∈ TB := tb_t 624 (by decide +kernel) (by decide +kernel)
theorem w625 : Cond.methodLink "LinearHistoriesLaw" 119 yLa_row ∈ TB := tb_t 625 (by decide +kernel) (by decide +kernel)
theorem w626 : Cond.static yLa_row ∈ TB := tb_t 626 (by decide +kernel) (by decide +kernel)
theorem w627 : Cond.codeWith yLa_row method_14_code 4 (Option.some Jvm.ClassFile.FieldType.int) [(0, 9, 12, 19), (0, 9, 15, 55)] ∈ TB := tb_t 627 (by decide +kernel) (by decide +kernel)
theorem w629 : Cond.methodLink "LinearHistoriesLaw" 52 yLH_row ∈ TB := tb_t 629 (by decide +kernel) (by decide +kernel)
theorem w630 : Cond.instanceMethod yLH_row ∈ TB := tb_t 630 (by decide +kernel) (by decide +kernel)
theorem w631 : Cond.selects "LinearHistories" yLH_row yLH_row ∈ TB := tb_t 631 (by decide +kernel) (by decide +kernel)
theorem w632 : Cond.code yLH_row prog_1_method_16_code 2 (Option.some Jvm.ClassFile.FieldType.int) ∈ TB := tb_t 632 (by decide +kernel) (by decide +kernel)
theorem w633 : Cond.methodLink "LinearHistories" 157 yLH_checkPlace ∈ TB := tb_t 633 (by decide +kernel) (by decide +kernel)
theorem w635 : Cond.instanceMethod yLH_checkPlace ∈ TB := tb_t 635 (by decide +kernel) (by decide +kernel)
theorem w636 : Cond.code yLH_checkPlace prog_1_method_19_code 2 (Option.none : Option Jvm.ClassFile.FieldType) ∈ TB := tb_t 636 (by decide +kernel) (by decide +kernel)
theorem w653 : Cond.methodLink "LinearHistoriesLaw" 122 yLa_result ∈ TB := tb_t 653 (by decide +kernel) (by decide +kernel)
theorem w654 : Cond.static yLa_result ∈ TB := tb_t 654 (by decide +kernel) (by decide +kernel)
theorem w655 : Cond.codeWith yLa_result method_15_code 4 (Option.some Jvm.ClassFile.FieldType.int) [(0, 9, 12, 19), (0, 9, 15, 55)] ∈ TB := tb_t 655 (by decide +kernel) (by decide +kernel)
theorem w656 : Cond.methodLink "LinearHistoriesLaw" 57 yLH_result ∈ TB := tb_t 656 (by decide +kernel) (by decide +kernel)
theorem w657 : Cond.instanceMethod yLH_result ∈ TB := tb_t 657 (by decide +kernel) (by decide +kernel)
theorem w658 : Cond.selects "LinearHistories" yLH_result yLH_result ∈ TB := tb_t 658 (by decide +kernel) (by decide +kernel)
theorem w659 : Cond.code yLH_result prog_1_method_17_code 2 (Option.some Jvm.ClassFile.FieldType.int) ∈ TB := tb_t 659 (by decide +kernel) (by decide +kernel)
theorem w660 : Cond.classLink "LinearHistoriesLaw" 61 "LinearHistoriesModel" ∈ TB := tb_t 660 (by decide +kernel) (by decide +kernel)
theorem w661 : Cond.instantiable "LinearHistoriesModel" 35 ∈ TB := tb_t 661 (by decide +kernel) (by decide +kernel)
theorem w662 : Cond.methodLink "LinearHistoriesLaw" 63 yMo_init ∈ TB := tb_t 662 (by decide +kernel) (by decide +kernel)
theorem w663 : Cond.instanceMethod yMo_init ∈ TB := tb_t 663 (by decide +kernel) (by decide +kernel)
theorem w664 : Cond.code yMo_init prog_8_method_1_code 1 (Option.none : Option Jvm.ClassFile.FieldType) ∈ TB := tb_t 664 (by decide +kernel) (by decide +kernel)
theorem w665 : Cond.methodLink "LinearHistoriesModel" 1 ⟨"java/lang/Object", "<init>", "()V"⟩ ∈ TB := tb_t 665 (by decide +kernel) (by decide +kernel)
theorem w666 : Cond.methodLink "LinearHistoriesModel" 90 yMo_forget ∈ TB := tb_t 666 (by decide +kernel) (by decide +kernel)
theorem w668 : Cond.instanceMethod yMo_forget ∈ TB := tb_t 668 (by decide +kernel) (by decide +kernel)
theorem w669 : Cond.code yMo_forget prog_8_method_3_code 2 (Option.none : Option Jvm.ClassFile.FieldType) ∈ TB := tb_t 669 (by decide +kernel) (by decide +kernel)
theorem w670 : Cond.methodLink "LinearHistoriesModel" 97 yMo_change ∈ TB := tb_t 670 (by decide +kernel) (by decide +kernel)
theorem w672 : Cond.instanceMethod yMo_change ∈ TB := tb_t 672 (by decide +kernel) (by decide +kernel)
theorem w673 : Cond.code yMo_change prog_8_method_4_code 2 (Option.none : Option Jvm.ClassFile.FieldType) ∈ TB := tb_t 673 (by decide +kernel) (by decide +kernel)
theorem w674 : Cond.fieldLink "LinearHistoriesModel" 93 "LinearHistoriesModel" "thrown" "I" ∈ TB := tb_t 674 (by decide +kernel) (by decide +kernel)
theorem w675 : Cond.fieldLink "LinearHistoriesModel" 104 "LinearHistoriesModel" "objects" "I" ∈ TB := tb_t 675 (by decide +kernel) (by decide +kernel)
theorem w676 : Cond.fieldLink "LinearHistoriesModel" 7 "LinearHistoriesModel" "kinds" "[I" ∈ TB := tb_t 676 (by decide +kernel) (by decide +kernel)
theorem w677 : Cond.fieldLink "LinearHistoriesModel" 13 "LinearHistoriesModel" "counts" "[I" ∈ TB := tb_t 677 (by decide +kernel) (by decide +kernel)
theorem w678 : Cond.fieldLink "LinearHistoriesModel" 16 "LinearHistoriesModel" "list" "[I" ∈ TB := tb_t 678 (by decide +kernel) (by decide +kernel)
theorem w679 : Cond.fieldLink "LinearHistoriesModel" 111 "LinearHistoriesModel" "operations" "I" ∈ TB := tb_t 679 (by decide +kernel) (by decide +kernel)
theorem w680 : Cond.fieldLink "LinearHistoriesModel" 19 "LinearHistoriesModel" "process" "[I" ∈ TB := tb_t 680 (by decide +kernel) (by decide +kernel)
theorem w681 : Cond.fieldLink "LinearHistoriesModel" 22 "LinearHistoriesModel" "objectOf" "[I" ∈ TB := tb_t 681 (by decide +kernel) (by decide +kernel)
theorem w682 : Cond.fieldLink "LinearHistoriesModel" 25 "LinearHistoriesModel" "operation" "[I" ∈ TB := tb_t 682 (by decide +kernel) (by decide +kernel)
theorem w683 : Cond.fieldLink "LinearHistoriesModel" 28 "LinearHistoriesModel" "first" "[I" ∈ TB := tb_t 683 (by decide +kernel) (by decide +kernel)
theorem w684 : Cond.fieldLink "LinearHistoriesModel" 31 "LinearHistoriesModel" "second" "[I" ∈ TB := tb_t 684 (by decide +kernel) (by decide +kernel)
theorem w685 : Cond.fieldLink "LinearHistoriesModel" 34 "LinearHistoriesModel" "backWith" "[I" ∈ TB := tb_t 685 (by decide +kernel) (by decide +kernel)
theorem w686 : Cond.fieldLink "LinearHistoriesModel" 37 "LinearHistoriesModel" "calledAt" "[I" ∈ TB := tb_t 686 (by decide +kernel) (by decide +kernel)
theorem w687 : Cond.fieldLink "LinearHistoriesModel" 40 "LinearHistoriesModel" "backAt" "[I" ∈ TB := tb_t 687 (by decide +kernel) (by decide +kernel)
theorem w688 : Cond.fieldLink "LinearHistoriesModel" 43 "LinearHistoriesModel" "open" "[I" ∈ TB := tb_t 688 (by decide +kernel) (by decide +kernel)
theorem w689 : Cond.fieldLink "LinearHistoriesModel" 114 "LinearHistoriesModel" "events" "I" ∈ TB := tb_t 689 (by decide +kernel) (by decide +kernel)
theorem w690 : Cond.fieldLink "LinearHistoriesModel" 46 "LinearHistoriesModel" "masks" "[I" ∈ TB := tb_t 690 (by decide +kernel) (by decide +kernel)
theorem w691 : Cond.fieldLink "LinearHistoriesModel" 49 "LinearHistoriesModel" "states" "[J" ∈ TB := tb_t 691 (by decide +kernel) (by decide +kernel)
end
section
theorem w692 : Cond.fieldLink "LinearHistoriesModel" 53 "LinearHistoriesModel" "alive" "[Z" ∈ TB := tb_t 692 (by decide +kernel) (by decide +kernel)
theorem w693 : Cond.fieldLink "LinearHistoriesModel" 57 "LinearHistoriesModel" "rows" "[J" ∈ TB := tb_t 693 (by decide +kernel) (by decide +kernel)
theorem w694 : Cond.fieldLink "LinearHistoriesModel" 60 "LinearHistoriesModel" "known" "[Z" ∈ TB := tb_t 694 (by decide +kernel) (by decide +kernel)
theorem w695 : Cond.fieldLink "LinearHistoriesModel" 63 "LinearHistoriesModel" "found" "[I" ∈ TB := tb_t 695 (by decide +kernel) (by decide +kernel)
theorem w696 : Cond.fieldLink "LinearHistoriesModel" 66 "LinearHistoriesModel" "judged" "[I" ∈ TB := tb_t 696 (by decide +kernel) (by decide +kernel)
theorem w697 : Cond.fieldLink "LinearHistoriesModel" 69 "LinearHistoriesModel" "ways" "[J" ∈ TB := tb_t 697 (by decide +kernel) (by decide +kernel)
theorem w698 : Cond.fieldLink "LinearHistoriesModel" 72 "LinearHistoriesModel" "lasts" "[I" ∈ TB := tb_t 698 (by decide +kernel) (by decide +kernel)
theorem w699 : Cond.fieldLink "LinearHistoriesModel" 75 "LinearHistoriesModel" "brokenAt" "[I" ∈ TB := tb_t 699 (by decide +kernel) (by decide +kernel)
theorem w700 : Cond.fieldLink "LinearHistoriesModel" 78 "LinearHistoriesModel" "knownBroken" "[Z" ∈ TB := tb_t 700 (by decide +kernel) (by decide +kernel)
theorem w701 : Cond.fieldLink "LinearHistoriesModel" 122 "LinearHistoriesModel" "state" "J" ∈ TB := tb_t 701 (by decide +kernel) (by decide +kernel)
theorem w702 : Cond.fieldLink "LinearHistoriesModel" 129 "LinearHistoriesModel" "things" "I" ∈ TB := tb_t 702 (by decide +kernel) (by decide +kernel)
theorem w703 : Cond.fieldLink "LinearHistoriesModel" 126 "LinearHistoriesModel" "told" "I" ∈ TB := tb_t 703 (by decide +kernel) (by decide +kernel)
theorem w704 : Cond.fieldLink "LinearHistoriesModel" 100 "LinearHistoriesModel" "knownRow" "Z" ∈ TB := tb_t 704 (by decide +kernel) (by decide +kernel)
theorem w705 : Cond.fieldLink "LinearHistoriesModel" 209 "LinearHistoriesModel" "length" "I" ∈ TB := tb_t 705 (by decide +kernel) (by decide +kernel)
theorem w706 : Cond.fieldLink "LinearHistoriesModel" 81 "LinearHistoriesModel" "row" "[I" ∈ TB := tb_t 706 (by decide +kernel) (by decide +kernel)
theorem w707 : Cond.fieldLink "LinearHistoriesModel" 84 "LinearHistoriesModel" "results" "[I" ∈ TB := tb_t 707 (by decide +kernel) (by decide +kernel)
theorem w708 : Cond.fieldLink "LinearHistoriesModel" 87 "LinearHistoriesModel" "at" "[I" ∈ TB := tb_t 708 (by decide +kernel) (by decide +kernel)
theorem w780 : Cond.methodLink "LinearHistoriesLaw" 70 yMo_thrown ∈ TB := tb_t 780 (by decide +kernel) (by decide +kernel)
theorem w781 : Cond.instanceMethod yMo_thrown ∈ TB := tb_t 781 (by decide +kernel) (by decide +kernel)
theorem w782 : Cond.selects "LinearHistoriesModel" yMo_thrown yMo_thrown ∈ TB := tb_t 782 (by decide +kernel) (by decide +kernel)
theorem w783 : Cond.code yMo_thrown prog_8_method_2_code 1 (Option.some Jvm.ClassFile.FieldType.int) ∈ TB := tb_t 783 (by decide +kernel) (by decide +kernel)
theorem w784 : Cond.methodLink "LinearHistoriesLaw" 69 yMo_object ∈ TB := tb_t 784 (by decide +kernel) (by decide +kernel)
theorem w785 : Cond.instanceMethod yMo_object ∈ TB := tb_t 785 (by decide +kernel) (by decide +kernel)
theorem w786 : Cond.selects "LinearHistoriesModel" yMo_object yMo_object ∈ TB := tb_t 786 (by decide +kernel) (by decide +kernel)
theorem w787 : Cond.code yMo_object prog_8_method_5_code 2 (Option.some Jvm.ClassFile.FieldType.int) ∈ TB := tb_t 787 (by decide +kernel) (by decide +kernel)
theorem w788 : Cond.methodLink "LinearHistoriesLaw" 76 yMo_call ∈ TB := tb_t 788 (by decide +kernel) (by decide +kernel)
theorem w789 : Cond.instanceMethod yMo_call ∈ TB := tb_t 789 (by decide +kernel) (by decide +kernel)
theorem w790 : Cond.selects "LinearHistoriesModel" yMo_call yMo_call ∈ TB := tb_t 790 (by decide +kernel) (by decide +kernel)
theorem w791 : Cond.code yMo_call prog_8_method_7_code 8 (Option.some Jvm.ClassFile.FieldType.int) ∈ TB := tb_t 791 (by decide +kernel) (by decide +kernel)
theorem w792 : Cond.methodLink "LinearHistoriesModel" 107 yMo_noObject ∈ TB := tb_t 792 (by decide +kernel) (by decide +kernel)
theorem w794 : Cond.instanceMethod yMo_noObject ∈ TB := tb_t 794 (by decide +kernel) (by decide +kernel)
theorem w795 : Cond.code yMo_noObject prog_8_method_6_code 2 (Option.some Jvm.ClassFile.FieldType.boolean) ∈ TB := tb_t 795 (by decide +kernel) (by decide +kernel)
theorem w796 : Cond.methodLink "LinearHistoriesLaw" 80 yMo_back ∈ TB := tb_t 796 (by decide +kernel) (by decide +kernel)
theorem w797 : Cond.instanceMethod yMo_back ∈ TB := tb_t 797 (by decide +kernel) (by decide +kernel)
theorem w798 : Cond.selects "LinearHistoriesModel" yMo_back yMo_back ∈ TB := tb_t 798 (by decide +kernel) (by decide +kernel)
theorem w799 : Cond.code yMo_back prog_8_method_9_code 3 (Option.none : Option Jvm.ClassFile.FieldType) ∈ TB := tb_t 799 (by decide +kernel) (by decide +kernel)
theorem w800 : Cond.methodLink "LinearHistoriesModel" 117 yMo_isIdle ∈ TB := tb_t 800 (by decide +kernel) (by decide +kernel)
theorem w802 : Cond.instanceMethod yMo_isIdle ∈ TB := tb_t 802 (by decide +kernel) (by decide +kernel)
theorem w803 : Cond.code yMo_isIdle prog_8_method_8_code 2 (Option.some Jvm.ClassFile.FieldType.boolean) ∈ TB := tb_t 803 (by decide +kernel) (by decide +kernel)
theorem w804 : Cond.methodLink "LinearHistoriesLaw" 84 yMo_lose ∈ TB := tb_t 804 (by decide +kernel) (by decide +kernel)
theorem w805 : Cond.instanceMethod yMo_lose ∈ TB := tb_t 805 (by decide +kernel) (by decide +kernel)
theorem w806 : Cond.selects "LinearHistoriesModel" yMo_lose yMo_lose ∈ TB := tb_t 806 (by decide +kernel) (by decide +kernel)
theorem w807 : Cond.code yMo_lose prog_8_method_10_code 2 (Option.none : Option Jvm.ClassFile.FieldType) ∈ TB := tb_t 807 (by decide +kernel) (by decide +kernel)
theorem w808 : Cond.methodLink "LinearHistoriesLaw" 88 yMo_clear ∈ TB := tb_t 808 (by decide +kernel) (by decide +kernel)
theorem w809 : Cond.instanceMethod yMo_clear ∈ TB := tb_t 809 (by decide +kernel) (by decide +kernel)
theorem w810 : Cond.selects "LinearHistoriesModel" yMo_clear yMo_clear ∈ TB := tb_t 810 (by decide +kernel) (by decide +kernel)
theorem w811 : Cond.code yMo_clear prog_8_method_11_code 2 (Option.some Jvm.ClassFile.FieldType.int) ∈ TB := tb_t 811 (by decide +kernel) (by decide +kernel)
theorem w812 : Cond.methodLink "LinearHistoriesLaw" 92 yMo_events ∈ TB := tb_t 812 (by decide +kernel) (by decide +kernel)
theorem w813 : Cond.instanceMethod yMo_events ∈ TB := tb_t 813 (by decide +kernel) (by decide +kernel)
theorem w814 : Cond.selects "LinearHistoriesModel" yMo_events yMo_events ∈ TB := tb_t 814 (by decide +kernel) (by decide +kernel)
theorem w815 : Cond.code yMo_events prog_8_method_12_code 1 (Option.some Jvm.ClassFile.FieldType.int) ∈ TB := tb_t 815 (by decide +kernel) (by decide +kernel)
theorem w816 : Cond.methodLink "LinearHistoriesLaw" 95 yMo_possibilities ∈ TB := tb_t 816 (by decide +kernel) (by decide +kernel)
theorem w817 : Cond.instanceMethod yMo_possibilities ∈ TB := tb_t 817 (by decide +kernel) (by decide +kernel)
theorem w818 : Cond.selects "LinearHistoriesModel" yMo_possibilities yMo_possibilities ∈ TB := tb_t 818 (by decide +kernel) (by decide +kernel)
theorem w819 : Cond.code yMo_possibilities prog_8_method_29_code 2 (Option.some Jvm.ClassFile.FieldType.int) ∈ TB := tb_t 819 (by decide +kernel) (by decide +kernel)
theorem w820 : Cond.methodLink "LinearHistoriesModel" 195 yMo_look ∈ TB := tb_t 820 (by decide +kernel) (by decide +kernel)
theorem w822 : Cond.instanceMethod yMo_look ∈ TB := tb_t 822 (by decide +kernel) (by decide +kernel)
theorem w823 : Cond.code yMo_look prog_8_method_28_code 7 (Option.none : Option Jvm.ClassFile.FieldType) ∈ TB := tb_t 823 (by decide +kernel) (by decide +kernel)
theorem w824 : Cond.methodLink "LinearHistoriesModel" 185 yMo_gather ∈ TB := tb_t 824 (by decide +kernel) (by decide +kernel)
theorem w826 : Cond.instanceMethod yMo_gather ∈ TB := tb_t 826 (by decide +kernel) (by decide +kernel)
theorem w827 : Cond.code yMo_gather prog_8_method_25_code 10 (Option.some Jvm.ClassFile.FieldType.int) ∈ TB := tb_t 827 (by decide +kernel) (by decide +kernel)
theorem w828 : Cond.methodLink "LinearHistoriesModel" 172 yMo_can ∈ TB := tb_t 828 (by decide +kernel) (by decide +kernel)
theorem w830 : Cond.instanceMethod yMo_can ∈ TB := tb_t 830 (by decide +kernel) (by decide +kernel)
theorem w831 : Cond.code yMo_can prog_8_method_23_code 8 (Option.some Jvm.ClassFile.FieldType.boolean) ∈ TB := tb_t 831 (by decide +kernel) (by decide +kernel)
theorem w832 : Cond.methodLink "LinearHistoriesModel" 165 yMo_isBefore ∈ TB := tb_t 832 (by decide +kernel) (by decide +kernel)
theorem w834 : Cond.instanceMethod yMo_isBefore ∈ TB := tb_t 834 (by decide +kernel) (by decide +kernel)
theorem w835 : Cond.code yMo_isBefore prog_8_method_22_code 5 (Option.some Jvm.ClassFile.FieldType.boolean) ∈ TB := tb_t 835 (by decide +kernel) (by decide +kernel)
theorem w836 : Cond.methodLink "LinearHistoriesModel" 161 yMo_isBack ∈ TB := tb_t 836 (by decide +kernel) (by decide +kernel)
theorem w838 : Cond.instanceMethod yMo_isBack ∈ TB := tb_t 838 (by decide +kernel) (by decide +kernel)
theorem w839 : Cond.code yMo_isBack prog_8_method_21_code 3 (Option.some Jvm.ClassFile.FieldType.boolean) ∈ TB := tb_t 839 (by decide +kernel) (by decide +kernel)
theorem w840 : Cond.methodLink "LinearHistoriesModel" 169 yMo_doIt ∈ TB := tb_t 840 (by decide +kernel) (by decide +kernel)
theorem w842 : Cond.instanceMethod yMo_doIt ∈ TB := tb_t 842 (by decide +kernel) (by decide +kernel)
theorem w843 : Cond.code yMo_doIt prog_8_method_20_code 5 (Option.none : Option Jvm.ClassFile.FieldType) ∈ TB := tb_t 843 (by decide +kernel) (by decide +kernel)
theorem w844 : Cond.methodLink "LinearHistoriesModel" 148 yMo_doRegister ∈ TB := tb_t 844 (by decide +kernel) (by decide +kernel)
theorem w846 : Cond.instanceMethod yMo_doRegister ∈ TB := tb_t 846 (by decide +kernel) (by decide +kernel)
theorem w847 : Cond.code yMo_doRegister prog_8_method_16_code 5 (Option.none : Option Jvm.ClassFile.FieldType) ∈ TB := tb_t 847 (by decide +kernel) (by decide +kernel)
theorem w848 : Cond.methodLink "LinearHistoriesModel" 152 yMo_doSet ∈ TB := tb_t 848 (by decide +kernel) (by decide +kernel)
theorem w850 : Cond.instanceMethod yMo_doSet ∈ TB := tb_t 850 (by decide +kernel) (by decide +kernel)
theorem w851 : Cond.code yMo_doSet prog_8_method_18_code 7 (Option.none : Option Jvm.ClassFile.FieldType) ∈ TB := tb_t 851 (by decide +kernel) (by decide +kernel)
theorem w852 : Cond.methodLink "LinearHistoriesModel" 132 yMo_likeFirst ∈ TB := tb_t 852 (by decide +kernel) (by decide +kernel)
theorem w854 : Cond.instanceMethod yMo_likeFirst ∈ TB := tb_t 854 (by decide +kernel) (by decide +kernel)
theorem w855 : Cond.code yMo_likeFirst prog_8_method_13_code 4 (Option.some Jvm.ClassFile.FieldType.int) ∈ TB := tb_t 855 (by decide +kernel) (by decide +kernel)
theorem w856 : Cond.constantLong "LinearHistoriesModel" 141 (-1 : Int64) ∈ TB := tb_t 856 (by decide +kernel) (by decide +kernel)
theorem w857 : Cond.methodLink "LinearHistoriesModel" 155 yMo_doMap ∈ TB := tb_t 857 (by decide +kernel) (by decide +kernel)
theorem w859 : Cond.instanceMethod yMo_doMap ∈ TB := tb_t 859 (by decide +kernel) (by decide +kernel)
theorem w860 : Cond.code yMo_doMap prog_8_method_19_code 7 (Option.none : Option Jvm.ClassFile.FieldType) ∈ TB := tb_t 860 (by decide +kernel) (by decide +kernel)
theorem w861 : Cond.constantLong "LinearHistoriesModel" 143 (31 : Int64) ∈ TB := tb_t 861 (by decide +kernel) (by decide +kernel)
theorem w862 : Cond.constant "LinearHistoriesModel" 140 (-2147483648 : Int32) ∈ TB := tb_t 862 (by decide +kernel) (by decide +kernel)
theorem w863 : Cond.methodLink "LinearHistoriesModel" 145 yMo_likeSecond ∈ TB := tb_t 863 (by decide +kernel) (by decide +kernel)
theorem w865 : Cond.instanceMethod yMo_likeSecond ∈ TB := tb_t 865 (by decide +kernel) (by decide +kernel)
theorem w866 : Cond.code yMo_likeSecond prog_8_method_14_code 4 (Option.some Jvm.ClassFile.FieldType.int) ∈ TB := tb_t 866 (by decide +kernel) (by decide +kernel)
theorem w867 : Cond.methodLink "LinearHistoriesModel" 158 yMo_doRow ∈ TB := tb_t 867 (by decide +kernel) (by decide +kernel)
theorem w869 : Cond.instanceMethod yMo_doRow ∈ TB := tb_t 869 (by decide +kernel) (by decide +kernel)
theorem w870 : Cond.code yMo_doRow prog_8_method_17_code 11 (Option.none : Option Jvm.ClassFile.FieldType) ∈ TB := tb_t 870 (by decide +kernel) (by decide +kernel)
theorem w871 : Cond.methodLink "LinearHistoriesModel" 136 yMo_thing ∈ TB := tb_t 871 (by decide +kernel) (by decide +kernel)
theorem w872 : Cond.static yMo_thing ∈ TB := tb_t 872 (by decide +kernel) (by decide +kernel)
theorem w873 : Cond.code yMo_thing prog_8_method_15_code 3 (Option.some Jvm.ClassFile.FieldType.int) ∈ TB := tb_t 873 (by decide +kernel) (by decide +kernel)
theorem w874 : Cond.constantLong "LinearHistoriesModel" 120 (15 : Int64) ∈ TB := tb_t 874 (by decide +kernel) (by decide +kernel)
theorem w875 : Cond.constant "LinearHistoriesModel" 176 (65535 : Int32) ∈ TB := tb_t 875 (by decide +kernel) (by decide +kernel)
theorem w876 : Cond.methodLink "LinearHistoriesModel" 177 yMo_search ∈ TB := tb_t 876 (by decide +kernel) (by decide +kernel)
theorem w878 : Cond.instanceMethod yMo_search ∈ TB := tb_t 878 (by decide +kernel) (by decide +kernel)
theorem w879 : Cond.code yMo_search prog_8_method_24_code 5 (Option.some Jvm.ClassFile.FieldType.int) ∈ TB := tb_t 879 (by decide +kernel) (by decide +kernel)
theorem w880 : Cond.methodLink "LinearHistoriesModel" 189 yMo_judgeOf ∈ TB := tb_t 880 (by decide +kernel) (by decide +kernel)
theorem w882 : Cond.instanceMethod yMo_judgeOf ∈ TB := tb_t 882 (by decide +kernel) (by decide +kernel)
theorem w883 : Cond.code yMo_judgeOf prog_8_method_27_code 6 (Option.some Jvm.ClassFile.FieldType.int) ∈ TB := tb_t 883 (by decide +kernel) (by decide +kernel)
theorem w884 : Cond.methodLink "LinearHistoriesModel" 181 yMo_isEnd ∈ TB := tb_t 884 (by decide +kernel) (by decide +kernel)
theorem w886 : Cond.instanceMethod yMo_isEnd ∈ TB := tb_t 886 (by decide +kernel) (by decide +kernel)
theorem w887 : Cond.code yMo_isEnd prog_8_method_26_code 5 (Option.some Jvm.ClassFile.FieldType.boolean) ∈ TB := tb_t 887 (by decide +kernel) (by decide +kernel)
theorem w888 : Cond.constantLong "LinearHistoriesModel" 193 (-2 : Int64) ∈ TB := tb_t 888 (by decide +kernel) (by decide +kernel)
theorem w889 : Cond.methodLink "LinearHistoriesLaw" 98 yMo_judge ∈ TB := tb_t 889 (by decide +kernel) (by decide +kernel)
theorem w890 : Cond.instanceMethod yMo_judge ∈ TB := tb_t 890 (by decide +kernel) (by decide +kernel)
theorem w891 : Cond.selects "LinearHistoriesModel" yMo_judge yMo_judge ∈ TB := tb_t 891 (by decide +kernel) (by decide +kernel)
theorem w892 : Cond.code yMo_judge prog_8_method_30_code 2 (Option.some Jvm.ClassFile.FieldType.int) ∈ TB := tb_t 892 (by decide +kernel) (by decide +kernel)
theorem w893 : Cond.methodLink "LinearHistoriesLaw" 101 yMo_judgeOwn ∈ TB := tb_t 893 (by decide +kernel) (by decide +kernel)
theorem w894 : Cond.instanceMethod yMo_judgeOwn ∈ TB := tb_t 894 (by decide +kernel) (by decide +kernel)
theorem w895 : Cond.selects "LinearHistoriesModel" yMo_judgeOwn yMo_judgeOwn ∈ TB := tb_t 895 (by decide +kernel) (by decide +kernel)
theorem w896 : Cond.code yMo_judgeOwn prog_8_method_31_code 3 (Option.some Jvm.ClassFile.FieldType.int) ∈ TB := tb_t 896 (by decide +kernel) (by decide +kernel)
theorem w897 : Cond.methodLink "LinearHistoriesLaw" 104 yMo_ways ∈ TB := tb_t 897 (by decide +kernel) (by decide +kernel)
theorem w898 : Cond.instanceMethod yMo_ways ∈ TB := tb_t 898 (by decide +kernel) (by decide +kernel)
theorem w899 : Cond.selects "LinearHistoriesModel" yMo_ways yMo_ways ∈ TB := tb_t 899 (by decide +kernel) (by decide +kernel)
theorem w900 : Cond.code yMo_ways prog_8_method_32_code 2 (Option.some Jvm.ClassFile.FieldType.long) ∈ TB := tb_t 900 (by decide +kernel) (by decide +kernel)
theorem w901 : Cond.methodLink "LinearHistoriesLaw" 107 yMo_lasts ∈ TB := tb_t 901 (by decide +kernel) (by decide +kernel)
theorem w902 : Cond.instanceMethod yMo_lasts ∈ TB := tb_t 902 (by decide +kernel) (by decide +kernel)
theorem w903 : Cond.selects "LinearHistoriesModel" yMo_lasts yMo_lasts ∈ TB := tb_t 903 (by decide +kernel) (by decide +kernel)
theorem w904 : Cond.code yMo_lasts prog_8_method_33_code 2 (Option.some Jvm.ClassFile.FieldType.int) ∈ TB := tb_t 904 (by decide +kernel) (by decide +kernel)
theorem w905 : Cond.methodLink "LinearHistoriesLaw" 110 yMo_broken ∈ TB := tb_t 905 (by decide +kernel) (by decide +kernel)
theorem w906 : Cond.instanceMethod yMo_broken ∈ TB := tb_t 906 (by decide +kernel) (by decide +kernel)
theorem w907 : Cond.selects "LinearHistoriesModel" yMo_broken yMo_broken ∈ TB := tb_t 907 (by decide +kernel) (by decide +kernel)
theorem w908 : Cond.code yMo_broken prog_8_method_35_code 4 (Option.some Jvm.ClassFile.FieldType.int) ∈ TB := tb_t 908 (by decide +kernel) (by decide +kernel)
theorem w909 : Cond.methodLink "LinearHistoriesModel" 199 yMo_isTouched ∈ TB := tb_t 909 (by decide +kernel) (by decide +kernel)
theorem w911 : Cond.instanceMethod yMo_isTouched ∈ TB := tb_t 911 (by decide +kernel) (by decide +kernel)
theorem w912 : Cond.code yMo_isTouched prog_8_method_34_code 5 (Option.some Jvm.ClassFile.FieldType.boolean) ∈ TB := tb_t 912 (by decide +kernel) (by decide +kernel)
theorem w913 : Cond.methodLink "LinearHistoriesLaw" 114 yMo_linear ∈ TB := tb_t 913 (by decide +kernel) (by decide +kernel)
theorem w914 : Cond.instanceMethod yMo_linear ∈ TB := tb_t 914 (by decide +kernel) (by decide +kernel)
theorem w915 : Cond.selects "LinearHistoriesModel" yMo_linear yMo_linear ∈ TB := tb_t 915 (by decide +kernel) (by decide +kernel)
theorem w916 : Cond.code yMo_linear prog_8_method_37_code 1 (Option.some Jvm.ClassFile.FieldType.int) ∈ TB := tb_t 916 (by decide +kernel) (by decide +kernel)
theorem w917 : Cond.methodLink "LinearHistoriesModel" 202 yMo_linearity ∈ TB := tb_t 917 (by decide +kernel) (by decide +kernel)
theorem w919 : Cond.instanceMethod yMo_linearity ∈ TB := tb_t 919 (by decide +kernel) (by decide +kernel)
theorem w920 : Cond.code yMo_linearity prog_8_method_36_code 3 (Option.some Jvm.ClassFile.FieldType.int) ∈ TB := tb_t 920 (by decide +kernel) (by decide +kernel)
theorem w921 : Cond.methodLink "LinearHistoriesLaw" 118 yMo_length ∈ TB := tb_t 921 (by decide +kernel) (by decide +kernel)
theorem w922 : Cond.instanceMethod yMo_length ∈ TB := tb_t 922 (by decide +kernel) (by decide +kernel)
theorem w923 : Cond.selects "LinearHistoriesModel" yMo_length yMo_length ∈ TB := tb_t 923 (by decide +kernel) (by decide +kernel)
theorem w924 : Cond.code yMo_length prog_8_method_43_code 1 (Option.some Jvm.ClassFile.FieldType.int) ∈ TB := tb_t 924 (by decide +kernel) (by decide +kernel)
theorem w925 : Cond.methodLink "LinearHistoriesModel" 222 yMo_lay ∈ TB := tb_t 925 (by decide +kernel) (by decide +kernel)
theorem w927 : Cond.instanceMethod yMo_lay ∈ TB := tb_t 927 (by decide +kernel) (by decide +kernel)
theorem w928 : Cond.code yMo_lay prog_8_method_42_code 2 (Option.some Jvm.ClassFile.FieldType.boolean) ∈ TB := tb_t 928 (by decide +kernel) (by decide +kernel)
theorem w929 : Cond.methodLink "LinearHistoriesModel" 212 yMo_enliven ∈ TB := tb_t 929 (by decide +kernel) (by decide +kernel)
theorem w931 : Cond.instanceMethod yMo_enliven ∈ TB := tb_t 931 (by decide +kernel) (by decide +kernel)
theorem w932 : Cond.code yMo_enliven prog_8_method_38_code 6 (Option.none : Option Jvm.ClassFile.FieldType) ∈ TB := tb_t 932 (by decide +kernel) (by decide +kernel)
theorem w933 : Cond.methodLink "LinearHistoriesModel" 215 yMo_isWhole ∈ TB := tb_t 933 (by decide +kernel) (by decide +kernel)
theorem w935 : Cond.instanceMethod yMo_isWhole ∈ TB := tb_t 935 (by decide +kernel) (by decide +kernel)
theorem w936 : Cond.code yMo_isWhole prog_8_method_41_code 2 (Option.some Jvm.ClassFile.FieldType.boolean) ∈ TB := tb_t 936 (by decide +kernel) (by decide +kernel)
theorem w937 : Cond.methodLink "LinearHistoriesModel" 219 yMo_goesOn ∈ TB := tb_t 937 (by decide +kernel) (by decide +kernel)
theorem w939 : Cond.instanceMethod yMo_goesOn ∈ TB := tb_t 939 (by decide +kernel) (by decide +kernel)
theorem w940 : Cond.code yMo_goesOn prog_8_method_40_code 6 (Option.some Jvm.ClassFile.FieldType.boolean) ∈ TB := tb_t 940 (by decide +kernel) (by decide +kernel)
theorem w941 : Cond.methodLink "LinearHistoriesModel" 206 yMo_isDone ∈ TB := tb_t 941 (by decide +kernel) (by decide +kernel)
theorem w943 : Cond.instanceMethod yMo_isDone ∈ TB := tb_t 943 (by decide +kernel) (by decide +kernel)
theorem w944 : Cond.code yMo_isDone prog_8_method_39_code 4 (Option.some Jvm.ClassFile.FieldType.boolean) ∈ TB := tb_t 944 (by decide +kernel) (by decide +kernel)
theorem w945 : Cond.methodLink "LinearHistoriesLaw" 121 yMo_row ∈ TB := tb_t 945 (by decide +kernel) (by decide +kernel)
theorem w946 : Cond.instanceMethod yMo_row ∈ TB := tb_t 946 (by decide +kernel) (by decide +kernel)
theorem w947 : Cond.selects "LinearHistoriesModel" yMo_row yMo_row ∈ TB := tb_t 947 (by decide +kernel) (by decide +kernel)
theorem w948 : Cond.code yMo_row prog_8_method_44_code 2 (Option.some Jvm.ClassFile.FieldType.int) ∈ TB := tb_t 948 (by decide +kernel) (by decide +kernel)
theorem w949 : Cond.methodLink "LinearHistoriesLaw" 124 yMo_result ∈ TB := tb_t 949 (by decide +kernel) (by decide +kernel)
theorem w950 : Cond.instanceMethod yMo_result ∈ TB := tb_t 950 (by decide +kernel) (by decide +kernel)
theorem w951 : Cond.selects "LinearHistoriesModel" yMo_result yMo_result ∈ TB := tb_t 951 (by decide +kernel) (by decide +kernel)
theorem w952 : Cond.code yMo_result prog_8_method_45_code 2 (Option.some Jvm.ClassFile.FieldType.int) ∈ TB := tb_t 952 (by decide +kernel) (by decide +kernel)
theorem ws0 : Cond.selects "LinearHistories" yLH_subjectOf yLH_subjectOf ∈ TB := tb_s 0 (by decide +kernel) (by decide +kernel)
theorem ws2 : Cond.selects "LinearHistories$Table" yTa_chainOf yTa_chainOf ∈ TB := tb_s 2 (by decide +kernel) (by decide +kernel)
theorem ws3 : Cond.selects "LinearHistories$Table" yTa_findIn yTa_findIn ∈ TB := tb_s 3 (by decide +kernel) (by decide +kernel)
theorem ws4 : Cond.selects "LinearHistories$Space" ySp_step ySp_step ∈ TB := tb_s 4 (by decide +kernel) (by decide +kernel)
theorem ws5 : Cond.selects "LinearHistories$State" ySt_changeRegister ySt_changeRegister ∈ TB := tb_s 5 (by decide +kernel) (by decide +kernel)
theorem ws6 : Cond.selects "LinearHistories$State" ySt_changeSet ySt_changeSet ∈ TB := tb_s 6 (by decide +kernel) (by decide +kernel)
theorem ws7 : Cond.selects "LinearHistories$State" ySt_changeMap ySt_changeMap ∈ TB := tb_s 7 (by decide +kernel) (by decide +kernel)
theorem ws8 : Cond.selects "LinearHistories$State" ySt_changeSequence ySt_changeSequence ∈ TB := tb_s 8 (by decide +kernel) (by decide +kernel)
theorem ws9 : Cond.selects "LinearHistories$State" ySt_placeInHeap ySt_placeInHeap ∈ TB := tb_s 9 (by decide +kernel) (by decide +kernel)
theorem ws10 : Cond.selects "LinearHistories$State" ySt_insertAt ySt_insertAt ∈ TB := tb_s 10 (by decide +kernel) (by decide +kernel)
theorem ws11 : Cond.selects "LinearHistories$State" ySt_removeAt ySt_removeAt ∈ TB := tb_s 11 (by decide +kernel) (by decide +kernel)
theorem ws12 : Cond.selects "LinearHistories$Space" ySp_keyBehind ySp_keyBehind ∈ TB := tb_s 12 (by decide +kernel) (by decide +kernel)
theorem ws13 : Cond.selects "LinearHistories" yLH_checkProcess yLH_checkProcess ∈ TB := tb_s 13 (by decide +kernel) (by decide +kernel)
theorem ws14 : Cond.selects "LinearHistories" yLH_operationOf yLH_operationOf ∈ TB := tb_s 14 (by decide +kernel) (by decide +kernel)
theorem ws15 : Cond.selects "LinearHistories" yLH_learnedSubject yLH_learnedSubject ∈ TB := tb_s 15 (by decide +kernel) (by decide +kernel)
theorem ws16 : Cond.selects "LinearHistories" yLH_checkLinear yLH_checkLinear ∈ TB := tb_s 16 (by decide +kernel) (by decide +kernel)
theorem ws17 : Cond.selects "LinearHistories" yLH_buildRow yLH_buildRow ∈ TB := tb_s 17 (by decide +kernel) (by decide +kernel)
theorem ws18 : Cond.selects "LinearHistories" yLH_allAtEnds yLH_allAtEnds ∈ TB := tb_s 18 (by decide +kernel) (by decide +kernel)
theorem ws19 : Cond.selects "LinearHistories" yLH_placeNext yLH_placeNext ∈ TB := tb_s 19 (by decide +kernel) (by decide +kernel)
theorem ws20 : Cond.selects "LinearHistories" yLH_checkPlace yLH_checkPlace ∈ TB := tb_s 20 (by decide +kernel) (by decide +kernel)
theorem ws21 : Cond.selects "LinearHistoriesModel" yMo_forget yMo_forget ∈ TB := tb_s 21 (by decide +kernel) (by decide +kernel)
theorem ws22 : Cond.selects "LinearHistoriesModel" yMo_change yMo_change ∈ TB := tb_s 22 (by decide +kernel) (by decide +kernel)
theorem ws23 : Cond.selects "LinearHistoriesModel" yMo_noObject yMo_noObject ∈ TB := tb_s 23 (by decide +kernel) (by decide +kernel)
theorem ws24 : Cond.selects "LinearHistoriesModel" yMo_isIdle yMo_isIdle ∈ TB := tb_s 24 (by decide +kernel) (by decide +kernel)
theorem ws25 : Cond.selects "LinearHistoriesModel" yMo_look yMo_look ∈ TB := tb_s 25 (by decide +kernel) (by decide +kernel)
theorem ws26 : Cond.selects "LinearHistoriesModel" yMo_gather yMo_gather ∈ TB := tb_s 26 (by decide +kernel) (by decide +kernel)
theorem ws27 : Cond.selects "LinearHistoriesModel" yMo_can yMo_can ∈ TB := tb_s 27 (by decide +kernel) (by decide +kernel)
theorem ws28 : Cond.selects "LinearHistoriesModel" yMo_isBefore yMo_isBefore ∈ TB := tb_s 28 (by decide +kernel) (by decide +kernel)
theorem ws29 : Cond.selects "LinearHistoriesModel" yMo_isBack yMo_isBack ∈ TB := tb_s 29 (by decide +kernel) (by decide +kernel)
theorem ws30 : Cond.selects "LinearHistoriesModel" yMo_doIt yMo_doIt ∈ TB := tb_s 30 (by decide +kernel) (by decide +kernel)
theorem ws31 : Cond.selects "LinearHistoriesModel" yMo_doRegister yMo_doRegister ∈ TB := tb_s 31 (by decide +kernel) (by decide +kernel)
theorem ws32 : Cond.selects "LinearHistoriesModel" yMo_doSet yMo_doSet ∈ TB := tb_s 32 (by decide +kernel) (by decide +kernel)
theorem ws33 : Cond.selects "LinearHistoriesModel" yMo_likeFirst yMo_likeFirst ∈ TB := tb_s 33 (by decide +kernel) (by decide +kernel)
theorem ws34 : Cond.selects "LinearHistoriesModel" yMo_doMap yMo_doMap ∈ TB := tb_s 34 (by decide +kernel) (by decide +kernel)
theorem ws35 : Cond.selects "LinearHistoriesModel" yMo_likeSecond yMo_likeSecond ∈ TB := tb_s 35 (by decide +kernel) (by decide +kernel)
theorem ws36 : Cond.selects "LinearHistoriesModel" yMo_doRow yMo_doRow ∈ TB := tb_s 36 (by decide +kernel) (by decide +kernel)
theorem ws37 : Cond.selects "LinearHistoriesModel" yMo_search yMo_search ∈ TB := tb_s 37 (by decide +kernel) (by decide +kernel)
theorem ws38 : Cond.selects "LinearHistoriesModel" yMo_judgeOf yMo_judgeOf ∈ TB := tb_s 38 (by decide +kernel) (by decide +kernel)
theorem ws39 : Cond.selects "LinearHistoriesModel" yMo_isEnd yMo_isEnd ∈ TB := tb_s 39 (by decide +kernel) (by decide +kernel)
theorem ws40 : Cond.selects "LinearHistoriesModel" yMo_isTouched yMo_isTouched ∈ TB := tb_s 40 (by decide +kernel) (by decide +kernel)
theorem ws41 : Cond.selects "LinearHistoriesModel" yMo_linearity yMo_linearity ∈ TB := tb_s 41 (by decide +kernel) (by decide +kernel)
theorem ws42 : Cond.selects "LinearHistoriesModel" yMo_lay yMo_lay ∈ TB := tb_s 42 (by decide +kernel) (by decide +kernel)
theorem ws43 : Cond.selects "LinearHistoriesModel" yMo_enliven yMo_enliven ∈ TB := tb_s 43 (by decide +kernel) (by decide +kernel)
theorem ws44 : Cond.selects "LinearHistoriesModel" yMo_isWhole yMo_isWhole ∈ TB := tb_s 44 (by decide +kernel) (by decide +kernel)
theorem ws45 : Cond.selects "LinearHistoriesModel" yMo_goesOn yMo_goesOn ∈ TB := tb_s 45 (by decide +kernel) (by decide +kernel)
theorem ws46 : Cond.selects "LinearHistoriesModel" yMo_isDone yMo_isDone ∈ TB := tb_s 46 (by decide +kernel) (by decide +kernel)
theorem inOp : ∀ w ∈ u_ws ROp TOp 8, w ∈ TB := by decide +kernel
theorem inSp : ∀ w ∈ u_ws RSp TSp 8, w ∈ TB := by decide +kernel
theorem inSt : ∀ w ∈ u_ws RSt TSt 3, w ∈ TB := by decide +kernel
theorem inSu : ∀ w ∈ u_ws RSu TSu 18, w ∈ TB := by decide +kernel
theorem inTa : ∀ w ∈ u_ws RTa TTa 5, w ∈ TB := by decide +kernel
theorem inLH : ∀ w ∈ u_ws RLH TLH 15, w ∈ TB := by decide +kernel
theorem inMo : ∀ w ∈ u_ws RMo TMo 35, w ∈ TB := by decide +kernel
end
section
theorem dAr_fill_0 : decode bAr_fill 0 = .ok (.iconst 0, 1) := by decide +kernel
theorem dAr_fill_1 : decode bAr_fill 1 = .ok (.istore_n 2, 1) := by decide +kernel
theorem dAr_fill_2 : decode bAr_fill 2 = .ok (.aload_n 0, 1) := by decide +kernel
theorem dAr_fill_3 : decode bAr_fill 3 = .ok (.arraylength, 1) := by decide +kernel
theorem dAr_fill_4 : decode bAr_fill 4 = .ok (.istore_n 3, 1) := by decide +kernel
theorem dAr_fill_5 : decode bAr_fill 5 = .ok (.iload_n 2, 1) := by decide +kernel
theorem dAr_fill_6 : decode bAr_fill 6 = .ok (.iload_n 3, 1) := by decide +kernel
theorem dAr_fill_7 : decode bAr_fill 7 = .ok (.if_icmp .ge 13, 3) := by decide +kernel
theorem dAr_fill_10 : decode bAr_fill 10 = .ok (.aload_n 0, 1) := by decide +kernel
theorem dAr_fill_11 : decode bAr_fill 11 = .ok (.iload_n 2, 1) := by decide +kernel
theorem dAr_fill_12 : decode bAr_fill 12 = .ok (.iload_n 1, 1) := by decide +kernel
theorem dAr_fill_13 : decode bAr_fill 13 = .ok (.iastore, 1) := by decide +kernel
theorem dAr_fill_14 : decode bAr_fill 14 = .ok (.iinc 2 1, 3) := by decide +kernel
theorem dAr_fill_17 : decode bAr_fill 17 = .ok (.goto (-12), 3) := by decide +kernel
theorem dAr_fill_20 : decode bAr_fill 20 = .ok (.return_, 1) := by decide +kernel
end
section
theorem dLH_init_0 : decode bLH_init 0 = .ok (.aload_n 0, 1) := by decide +kernel
theorem dLH_init_1 : decode bLH_init 1 = .ok (.invokespecial 1, 3) := by decide +kernel
theorem dLH_init_4 : decode bLH_init 4 = .ok (.aload_n 0, 1) := by decide +kernel
theorem dLH_init_5 : decode bLH_init 5 = .ok (.bipush 6, 2) := by decide +kernel
theorem dLH_init_7 : decode bLH_init 7 = .ok (.anewarray 9, 3) := by decide +kernel
theorem dLH_init_10 : decode bLH_init 10 = .ok (.putfield 11, 3) := by decide +kernel
theorem dLH_init_13 : decode bLH_init 13 = .ok (.aload_n 0, 1) := by decide +kernel
theorem dLH_init_14 : decode bLH_init 14 = .ok (.bipush 48, 2) := by decide +kernel
theorem dLH_init_16 : decode bLH_init 16 = .ok (.newarray .int, 2) := by decide +kernel
theorem dLH_init_18 : decode bLH_init 18 = .ok (.putfield 15, 3) := by decide +kernel
theorem dLH_init_21 : decode bLH_init 21 = .ok (.aload_n 0, 1) := by decide +kernel
theorem dLH_init_22 : decode bLH_init 22 = .ok (.bipush 48, 2) := by decide +kernel
theorem dLH_init_24 : decode bLH_init 24 = .ok (.newarray .int, 2) := by decide +kernel
theorem dLH_init_26 : decode bLH_init 26 = .ok (.putfield 19, 3) := by decide +kernel
theorem dLH_init_29 : decode bLH_init 29 = .ok (.aload_n 0, 1) := by decide +kernel
theorem dLH_init_30 : decode bLH_init 30 = .ok (.bipush 48, 2) := by decide +kernel
theorem dLH_init_32 : decode bLH_init 32 = .ok (.newarray .long, 2) := by decide +kernel
theorem dLH_init_34 : decode bLH_init 34 = .ok (.putfield 22, 3) := by decide +kernel
theorem dLH_init_37 : decode bLH_init 37 = .ok (.aload_n 0, 1) := by decide +kernel
theorem dLH_init_38 : decode bLH_init 38 = .ok (.bipush 8, 2) := by decide +kernel
theorem dLH_init_40 : decode bLH_init 40 = .ok (.newarray .int, 2) := by decide +kernel
theorem dLH_init_42 : decode bLH_init 42 = .ok (.putfield 26, 3) := by decide +kernel
theorem dLH_init_45 : decode bLH_init 45 = .ok (.aload_n 0, 1) := by decide +kernel
theorem dLH_init_46 : decode bLH_init 46 = .ok (.new 29, 3) := by decide +kernel
theorem dLH_init_49 : decode bLH_init 49 = .ok (.dup, 1) := by decide +kernel
theorem dLH_init_50 : decode bLH_init 50 = .ok (.invokespecial 31, 3) := by decide +kernel
theorem dLH_init_53 : decode bLH_init 53 = .ok (.putfield 32, 3) := by decide +kernel
theorem dLH_init_56 : decode bLH_init 56 = .ok (.aload_n 0, 1) := by decide +kernel
theorem dLH_init_57 : decode bLH_init 57 = .ok (.bipush 48, 2) := by decide +kernel
theorem dLH_init_59 : decode bLH_init 59 = .ok (.newarray .int, 2) := by decide +kernel
theorem dLH_init_61 : decode bLH_init 61 = .ok (.putfield 36, 3) := by decide +kernel
theorem dLH_init_64 : decode bLH_init 64 = .ok (.aload_n 0, 1) := by decide +kernel
theorem dLH_init_65 : decode bLH_init 65 = .ok (.bipush 48, 2) := by decide +kernel
theorem dLH_init_67 : decode bLH_init 67 = .ok (.newarray .int, 2) := by decide +kernel
theorem dLH_init_69 : decode bLH_init 69 = .ok (.putfield 39, 3) := by decide +kernel
theorem dLH_init_72 : decode bLH_init 72 = .ok (.aload_n 0, 1) := by decide +kernel
theorem dLH_init_73 : decode bLH_init 73 = .ok (.bipush 6, 2) := by decide +kernel
theorem dLH_init_75 : decode bLH_init 75 = .ok (.newarray .int, 2) := by decide +kernel
theorem dLH_init_77 : decode bLH_init 77 = .ok (.putfield 42, 3) := by decide +kernel
theorem dLH_init_80 : decode bLH_init 80 = .ok (.aload_n 0, 1) := by decide +kernel
theorem dLH_init_81 : decode bLH_init 81 = .ok (.getfield 26, 3) := by decide +kernel
theorem dLH_init_84 : decode bLH_init 84 = .ok (.iconst (-1), 1) := by decide +kernel
theorem dLH_init_85 : decode bLH_init 85 = .ok (.invokestatic 45, 3) := by decide +kernel
theorem dLH_init_88 : decode bLH_init 88 = .ok (.return_, 1) := by decide +kernel
theorem dLH_clear_0 : decode bLH_clear 0 = .ok (.aload_n 0, 1) := by decide +kernel
theorem dLH_clear_1 : decode bLH_clear 1 = .ok (.getfield 103, 3) := by decide +kernel
theorem dLH_clear_4 : decode bLH_clear 4 = .ok (.istore_n 1, 1) := by decide +kernel
theorem dLH_clear_5 : decode bLH_clear 5 = .ok (.aload_n 0, 1) := by decide +kernel
theorem dLH_clear_6 : decode bLH_clear 6 = .ok (.getfield 26, 3) := by decide +kernel
theorem dLH_clear_9 : decode bLH_clear 9 = .ok (.iconst (-1), 1) := by decide +kernel
theorem dLH_clear_10 : decode bLH_clear 10 = .ok (.invokestatic 45, 3) := by decide +kernel
theorem dLH_clear_13 : decode bLH_clear 13 = .ok (.aload_n 0, 1) := by decide +kernel
theorem dLH_clear_14 : decode bLH_clear 14 = .ok (.iconst 0, 1) := by decide +kernel
theorem dLH_clear_15 : decode bLH_clear 15 = .ok (.putfield 58, 3) := by decide +kernel
theorem dLH_clear_18 : decode bLH_clear 18 = .ok (.aload_n 0, 1) := by decide +kernel
theorem dLH_clear_19 : decode bLH_clear 19 = .ok (.iconst 0, 1) := by decide +kernel
theorem dLH_clear_20 : decode bLH_clear 20 = .ok (.putfield 89, 3) := by decide +kernel
theorem dLH_clear_23 : decode bLH_clear 23 = .ok (.aload_n 0, 1) := by decide +kernel
theorem dLH_clear_24 : decode bLH_clear 24 = .ok (.iconst 0, 1) := by decide +kernel
theorem dLH_clear_25 : decode bLH_clear 25 = .ok (.putfield 103, 3) := by decide +kernel
theorem dLH_clear_28 : decode bLH_clear 28 = .ok (.aload_n 0, 1) := by decide +kernel
theorem dLH_clear_29 : decode bLH_clear 29 = .ok (.lconst 0, 1) := by decide +kernel
theorem dLH_clear_30 : decode bLH_clear 30 = .ok (.putfield 95, 3) := by decide +kernel
theorem dLH_clear_33 : decode bLH_clear 33 = .ok (.aload_n 0, 1) := by decide +kernel
theorem dLH_clear_34 : decode bLH_clear 34 = .ok (.iconst 0, 1) := by decide +kernel
theorem dLH_clear_35 : decode bLH_clear 35 = .ok (.putfield 67, 3) := by decide +kernel
theorem dLH_clear_38 : decode bLH_clear 38 = .ok (.iload_n 1, 1) := by decide +kernel
theorem dLH_clear_39 : decode bLH_clear 39 = .ok (.ireturn, 1) := by decide +kernel
theorem dLH_events_0 : decode bLH_events 0 = .ok (.aload_n 0, 1) := by decide +kernel
theorem dLH_events_1 : decode bLH_events 1 = .ok (.getfield 103, 3) := by decide +kernel
theorem dLH_events_4 : decode bLH_events 4 = .ok (.ireturn, 1) := by decide +kernel
theorem dLH_linear_0 : decode bLH_linear 0 = .ok (.iconst 1, 1) := by decide +kernel
theorem dLH_linear_1 : decode bLH_linear 1 = .ok (.istore_n 1, 1) := by decide +kernel
theorem dLH_linear_2 : decode bLH_linear 2 = .ok (.iconst 0, 1) := by decide +kernel
theorem dLH_linear_3 : decode bLH_linear 3 = .ok (.istore_n 2, 1) := by decide +kernel
theorem dLH_linear_4 : decode bLH_linear 4 = .ok (.iload_n 2, 1) := by decide +kernel
theorem dLH_linear_5 : decode bLH_linear 5 = .ok (.aload_n 0, 1) := by decide +kernel
theorem dLH_linear_6 : decode bLH_linear 6 = .ok (.getfield 58, 3) := by decide +kernel
theorem dLH_linear_9 : decode bLH_linear 9 = .ok (.if_icmp .ge 44, 3) := by decide +kernel
theorem dLH_linear_12 : decode bLH_linear 12 = .ok (.aload_n 0, 1) := by decide +kernel
theorem dLH_linear_13 : decode bLH_linear 13 = .ok (.iload_n 2, 1) := by decide +kernel
theorem dLH_linear_14 : decode bLH_linear 14 = .ok (.invokevirtual 74, 3) := by decide +kernel
theorem dLH_linear_17 : decode bLH_linear 17 = .ok (.astore_n 3, 1) := by decide +kernel
theorem dLH_linear_18 : decode bLH_linear 18 = .ok (.aload_n 3, 1) := by decide +kernel
theorem dLH_linear_19 : decode bLH_linear 19 = .ok (.aload_n 0, 1) := by decide +kernel
theorem dLH_linear_20 : decode bLH_linear 20 = .ok (.getfield 32, 3) := by decide +kernel
theorem dLH_linear_23 : decode bLH_linear 23 = .ok (.invokevirtual 142, 3) := by decide +kernel
theorem dLH_linear_26 : decode bLH_linear 26 = .ok (.aload_n 3, 1) := by decide +kernel
theorem dLH_linear_27 : decode bLH_linear 27 = .ok (.getfield 120, 3) := by decide +kernel
theorem dLH_linear_30 : decode bLH_linear 30 = .ok (.ifCond .ne 5, 3) := by decide +kernel
theorem dLH_linear_33 : decode bLH_linear 33 = .ok (.iconst 0, 1) := by decide +kernel
theorem dLH_linear_34 : decode bLH_linear 34 = .ok (.ireturn, 1) := by decide +kernel
theorem dLH_linear_35 : decode bLH_linear 35 = .ok (.aload_n 3, 1) := by decide +kernel
theorem dLH_linear_36 : decode bLH_linear 36 = .ok (.getfield 120, 3) := by decide +kernel
theorem dLH_linear_39 : decode bLH_linear 39 = .ok (.bipush (-2), 2) := by decide +kernel
theorem dLH_linear_41 : decode bLH_linear 41 = .ok (.if_icmp .ne 6, 3) := by decide +kernel
theorem dLH_linear_44 : decode bLH_linear 44 = .ok (.bipush (-2), 2) := by decide +kernel
theorem dLH_linear_46 : decode bLH_linear 46 = .ok (.istore_n 1, 1) := by decide +kernel
theorem dLH_linear_47 : decode bLH_linear 47 = .ok (.iinc 2 1, 3) := by decide +kernel
theorem dLH_linear_50 : decode bLH_linear 50 = .ok (.goto (-46), 3) := by decide +kernel
theorem dLH_linear_53 : decode bLH_linear 53 = .ok (.iload_n 1, 1) := by decide +kernel
theorem dLH_linear_54 : decode bLH_linear 54 = .ok (.ireturn, 1) := by decide +kernel
theorem dLH_subjectOf_0 : decode bLH_subjectOf 0 = .ok (.iload_n 1, 1) := by decide +kernel
theorem dLH_subjectOf_1 : decode bLH_subjectOf 1 = .ok (.ifCond .lt 20, 3) := by decide +kernel
theorem dLH_subjectOf_4 : decode bLH_subjectOf 4 = .ok (.iload_n 1, 1) := by decide +kernel
theorem dLH_subjectOf_5 : decode bLH_subjectOf 5 = .ok (.aload_n 0, 1) := by decide +kernel
theorem dLH_subjectOf_6 : decode bLH_subjectOf 6 = .ok (.getfield 58, 3) := by decide +kernel
theorem dLH_subjectOf_9 : decode bLH_subjectOf 9 = .ok (.if_icmp .ge 12, 3) := by decide +kernel
theorem dLH_subjectOf_12 : decode bLH_subjectOf 12 = .ok (.aload_n 0, 1) := by decide +kernel
theorem dLH_subjectOf_13 : decode bLH_subjectOf 13 = .ok (.getfield 11, 3) := by decide +kernel
theorem dLH_subjectOf_16 : decode bLH_subjectOf 16 = .ok (.iload_n 1, 1) := by decide +kernel
theorem dLH_subjectOf_17 : decode bLH_subjectOf 17 = .ok (.aaload, 1) := by decide +kernel
theorem dLH_subjectOf_18 : decode bLH_subjectOf 18 = .ok (.ifnonnull 13, 3) := by decide +kernel
theorem dLH_subjectOf_21 : decode bLH_subjectOf 21 = .ok (.new 51, 3) := by decide +kernel
theorem dLH_subjectOf_24 : decode bLH_subjectOf 24 = .ok (.dup, 1) := by decide +kernel
theorem dLH_subjectOf_25 : decode bLH_subjectOf 25 = .ok (.ldc 171, 2) := by decide +kernel
theorem dLH_subjectOf_27 : decode bLH_subjectOf 27 = .ok (.invokespecial 55, 3) := by decide +kernel
theorem dLH_subjectOf_30 : decode bLH_subjectOf 30 = .ok (.athrow, 1) := by decide +kernel
theorem dLH_subjectOf_31 : decode bLH_subjectOf 31 = .ok (.aload_n 0, 1) := by decide +kernel
theorem dLH_subjectOf_32 : decode bLH_subjectOf 32 = .ok (.getfield 11, 3) := by decide +kernel
theorem dLH_subjectOf_35 : decode bLH_subjectOf 35 = .ok (.iload_n 1, 1) := by decide +kernel
theorem dLH_subjectOf_36 : decode bLH_subjectOf 36 = .ok (.aaload, 1) := by decide +kernel
theorem dLH_subjectOf_37 : decode bLH_subjectOf 37 = .ok (.areturn, 1) := by decide +kernel
theorem dLH_object_0 : decode bLH_object 0 = .ok (.iload_n 1, 1) := by decide +kernel
theorem dLH_object_1 : decode bLH_object 1 = .ok (.ifCond .lt 8, 3) := by decide +kernel
theorem dLH_object_4 : decode bLH_object 4 = .ok (.iload_n 1, 1) := by decide +kernel
theorem dLH_object_5 : decode bLH_object 5 = .ok (.iconst 5, 1) := by decide +kernel
theorem dLH_object_6 : decode bLH_object 6 = .ok (.if_icmp .le 13, 3) := by decide +kernel
theorem dLH_object_9 : decode bLH_object 9 = .ok (.new 51, 3) := by decide +kernel
theorem dLH_object_12 : decode bLH_object 12 = .ok (.dup, 1) := by decide +kernel
theorem dLH_object_13 : decode bLH_object 13 = .ok (.ldc 53, 2) := by decide +kernel
theorem dLH_object_15 : decode bLH_object 15 = .ok (.invokespecial 55, 3) := by decide +kernel
theorem dLH_object_18 : decode bLH_object 18 = .ok (.athrow, 1) := by decide +kernel
theorem dLH_object_19 : decode bLH_object 19 = .ok (.aload_n 0, 1) := by decide +kernel
theorem dLH_object_20 : decode bLH_object 20 = .ok (.getfield 58, 3) := by decide +kernel
theorem dLH_object_23 : decode bLH_object 23 = .ok (.bipush 6, 2) := by decide +kernel
theorem dLH_object_25 : decode bLH_object 25 = .ok (.if_icmp .lt 5, 3) := by decide +kernel
theorem dLH_object_28 : decode bLH_object 28 = .ok (.iconst (-1), 1) := by decide +kernel
theorem dLH_object_29 : decode bLH_object 29 = .ok (.ireturn, 1) := by decide +kernel
theorem dLH_object_30 : decode bLH_object 30 = .ok (.aload_n 0, 1) := by decide +kernel
theorem dLH_object_31 : decode bLH_object 31 = .ok (.getfield 11, 3) := by decide +kernel
theorem dLH_object_34 : decode bLH_object 34 = .ok (.aload_n 0, 1) := by decide +kernel
theorem dLH_object_35 : decode bLH_object 35 = .ok (.getfield 58, 3) := by decide +kernel
theorem dLH_object_38 : decode bLH_object 38 = .ok (.aaload, 1) := by decide +kernel
theorem dLH_object_39 : decode bLH_object 39 = .ok (.astore_n 2, 1) := by decide +kernel
theorem dLH_object_40 : decode bLH_object 40 = .ok (.aload_n 2, 1) := by decide +kernel
theorem dLH_object_41 : decode bLH_object 41 = .ok (.ifnonnull 21, 3) := by decide +kernel
theorem dLH_object_44 : decode bLH_object 44 = .ok (.new 9, 3) := by decide +kernel
theorem dLH_object_47 : decode bLH_object 47 = .ok (.dup, 1) := by decide +kernel
theorem dLH_object_48 : decode bLH_object 48 = .ok (.invokespecial 62, 3) := by decide +kernel
theorem dLH_object_51 : decode bLH_object 51 = .ok (.astore_n 2, 1) := by decide +kernel
theorem dLH_object_52 : decode bLH_object 52 = .ok (.aload_n 0, 1) := by decide +kernel
theorem dLH_object_53 : decode bLH_object 53 = .ok (.getfield 11, 3) := by decide +kernel
theorem dLH_object_56 : decode bLH_object 56 = .ok (.aload_n 0, 1) := by decide +kernel
theorem dLH_object_57 : decode bLH_object 57 = .ok (.getfield 58, 3) := by decide +kernel
theorem dLH_object_60 : decode bLH_object 60 = .ok (.aload_n 2, 1) := by decide +kernel
theorem dLH_object_61 : decode bLH_object 61 = .ok (.aastore, 1) := by decide +kernel
theorem dLH_object_62 : decode bLH_object 62 = .ok (.aload_n 2, 1) := by decide +kernel
theorem dLH_object_63 : decode bLH_object 63 = .ok (.iload_n 1, 1) := by decide +kernel
theorem dLH_object_64 : decode bLH_object 64 = .ok (.invokevirtual 63, 3) := by decide +kernel
theorem dLH_object_67 : decode bLH_object 67 = .ok (.aload_n 0, 1) := by decide +kernel
theorem dLH_object_68 : decode bLH_object 68 = .ok (.iconst 0, 1) := by decide +kernel
theorem dLH_object_69 : decode bLH_object 69 = .ok (.putfield 67, 3) := by decide +kernel
theorem dLH_object_72 : decode bLH_object 72 = .ok (.aload_n 0, 1) := by decide +kernel
theorem dLH_object_73 : decode bLH_object 73 = .ok (.dup, 1) := by decide +kernel
theorem dLH_object_74 : decode bLH_object 74 = .ok (.getfield 58, 3) := by decide +kernel
theorem dLH_object_77 : decode bLH_object 77 = .ok (.iconst 1, 1) := by decide +kernel
theorem dLH_object_78 : decode bLH_object 78 = .ok (.iadd, 1) := by decide +kernel
theorem dLH_object_79 : decode bLH_object 79 = .ok (.putfield 58, 3) := by decide +kernel
theorem dLH_object_82 : decode bLH_object 82 = .ok (.aload_n 0, 1) := by decide +kernel
theorem dLH_object_83 : decode bLH_object 83 = .ok (.getfield 58, 3) := by decide +kernel
theorem dLH_object_86 : decode bLH_object 86 = .ok (.iconst 1, 1) := by decide +kernel
theorem dLH_object_87 : decode bLH_object 87 = .ok (.isub, 1) := by decide +kernel
theorem dLH_object_88 : decode bLH_object 88 = .ok (.ireturn, 1) := by decide +kernel
theorem dLH_call_0 : decode bLH_call 0 = .ok (.aload_n 0, 1) := by decide +kernel
theorem dLH_call_1 : decode bLH_call 1 = .ok (.iload_n 1, 1) := by decide +kernel
theorem dLH_call_2 : decode bLH_call 2 = .ok (.invokevirtual 71, 3) := by decide +kernel
theorem dLH_call_5 : decode bLH_call 5 = .ok (.aload_n 0, 1) := by decide +kernel
theorem dLH_call_6 : decode bLH_call 6 = .ok (.iload_n 2, 1) := by decide +kernel
theorem dLH_call_7 : decode bLH_call 7 = .ok (.invokevirtual 74, 3) := by decide +kernel
theorem dLH_call_10 : decode bLH_call 10 = .ok (.astore 6, 2) := by decide +kernel
theorem dLH_call_12 : decode bLH_call 12 = .ok (.iload_n 3, 1) := by decide +kernel
theorem dLH_call_13 : decode bLH_call 13 = .ok (.ifCond .lt 12, 3) := by decide +kernel
theorem dLH_call_16 : decode bLH_call 16 = .ok (.iload_n 3, 1) := by decide +kernel
theorem dLH_call_17 : decode bLH_call 17 = .ok (.aload 6, 2) := by decide +kernel
theorem dLH_call_19 : decode bLH_call 19 = .ok (.invokevirtual 78, 3) := by decide +kernel
theorem dLH_call_22 : decode bLH_call 22 = .ok (.if_icmp .lt 13, 3) := by decide +kernel
theorem dLH_call_25 : decode bLH_call 25 = .ok (.new 51, 3) := by decide +kernel
theorem dLH_call_28 : decode bLH_call 28 = .ok (.dup, 1) := by decide +kernel
theorem dLH_call_29 : decode bLH_call 29 = .ok (.ldc 82, 2) := by decide +kernel
theorem dLH_call_31 : decode bLH_call 31 = .ok (.invokespecial 55, 3) := by decide +kernel
theorem dLH_call_34 : decode bLH_call 34 = .ok (.athrow, 1) := by decide +kernel
theorem dLH_call_35 : decode bLH_call 35 = .ok (.aload_n 0, 1) := by decide +kernel
theorem dLH_call_36 : decode bLH_call 36 = .ok (.getfield 26, 3) := by decide +kernel
theorem dLH_call_39 : decode bLH_call 39 = .ok (.iload_n 1, 1) := by decide +kernel
theorem dLH_call_40 : decode bLH_call 40 = .ok (.iaload, 1) := by decide +kernel
theorem dLH_call_41 : decode bLH_call 41 = .ok (.iconst (-1), 1) := by decide +kernel
theorem dLH_call_42 : decode bLH_call 42 = .ok (.if_icmp .eq 13, 3) := by decide +kernel
theorem dLH_call_45 : decode bLH_call 45 = .ok (.new 84, 3) := by decide +kernel
theorem dLH_call_48 : decode bLH_call 48 = .ok (.dup, 1) := by decide +kernel
theorem dLH_call_49 : decode bLH_call 49 = .ok (.ldc 86, 2) := by decide +kernel
theorem dLH_call_51 : decode bLH_call 51 = .ok (.invokespecial 88, 3) := by decide +kernel
theorem dLH_call_54 : decode bLH_call 54 = .ok (.athrow, 1) := by decide +kernel
theorem dLH_call_55 : decode bLH_call 55 = .ok (.aload_n 0, 1) := by decide +kernel
theorem dLH_call_56 : decode bLH_call 56 = .ok (.getfield 89, 3) := by decide +kernel
theorem dLH_call_59 : decode bLH_call 59 = .ok (.bipush 48, 2) := by decide +kernel
theorem dLH_call_61 : decode bLH_call 61 = .ok (.if_icmp .ge 13, 3) := by decide +kernel
theorem dLH_call_64 : decode bLH_call 64 = .ok (.aload 6, 2) := by decide +kernel
theorem dLH_call_66 : decode bLH_call 66 = .ok (.getfield 92, 3) := by decide +kernel
theorem dLH_call_69 : decode bLH_call 69 = .ok (.bipush 16, 2) := by decide +kernel
theorem dLH_call_71 : decode bLH_call 71 = .ok (.if_icmp .lt 5, 3) := by decide +kernel
theorem dLH_call_74 : decode bLH_call 74 = .ok (.iconst (-1), 1) := by decide +kernel
theorem dLH_call_75 : decode bLH_call 75 = .ok (.ireturn, 1) := by decide +kernel
theorem dLH_call_76 : decode bLH_call 76 = .ok (.aload_n 0, 1) := by decide +kernel
theorem dLH_call_77 : decode bLH_call 77 = .ok (.getfield 89, 3) := by decide +kernel
theorem dLH_call_80 : decode bLH_call 80 = .ok (.istore 7, 2) := by decide +kernel
theorem dLH_call_82 : decode bLH_call 82 = .ok (.aload_n 0, 1) := by decide +kernel
theorem dLH_call_83 : decode bLH_call 83 = .ok (.getfield 15, 3) := by decide +kernel
theorem dLH_call_86 : decode bLH_call 86 = .ok (.iload 7, 2) := by decide +kernel
theorem dLH_call_88 : decode bLH_call 88 = .ok (.iload_n 2, 1) := by decide +kernel
theorem dLH_call_89 : decode bLH_call 89 = .ok (.iastore, 1) := by decide +kernel
theorem dLH_call_90 : decode bLH_call 90 = .ok (.aload_n 0, 1) := by decide +kernel
theorem dLH_call_91 : decode bLH_call 91 = .ok (.getfield 19, 3) := by decide +kernel
theorem dLH_call_94 : decode bLH_call 94 = .ok (.iload 7, 2) := by decide +kernel
theorem dLH_call_96 : decode bLH_call 96 = .ok (.aload 6, 2) := by decide +kernel
theorem dLH_call_98 : decode bLH_call 98 = .ok (.getfield 92, 3) := by decide +kernel
theorem dLH_call_101 : decode bLH_call 101 = .ok (.iastore, 1) := by decide +kernel
theorem dLH_call_102 : decode bLH_call 102 = .ok (.aload_n 0, 1) := by decide +kernel
theorem dLH_call_103 : decode bLH_call 103 = .ok (.getfield 22, 3) := by decide +kernel
theorem dLH_call_106 : decode bLH_call 106 = .ok (.iload 7, 2) := by decide +kernel
theorem dLH_call_108 : decode bLH_call 108 = .ok (.aload_n 0, 1) := by decide +kernel
theorem dLH_call_109 : decode bLH_call 109 = .ok (.getfield 95, 3) := by decide +kernel
theorem dLH_call_112 : decode bLH_call 112 = .ok (.lastore, 1) := by decide +kernel
theorem dLH_call_113 : decode bLH_call 113 = .ok (.aload_n 0, 1) := by decide +kernel
theorem dLH_call_114 : decode bLH_call 114 = .ok (.getfield 26, 3) := by decide +kernel
theorem dLH_call_117 : decode bLH_call 117 = .ok (.iload_n 1, 1) := by decide +kernel
theorem dLH_call_118 : decode bLH_call 118 = .ok (.iload 7, 2) := by decide +kernel
theorem dLH_call_120 : decode bLH_call 120 = .ok (.iastore, 1) := by decide +kernel
theorem dLH_call_121 : decode bLH_call 121 = .ok (.aload 6, 2) := by decide +kernel
theorem dLH_call_123 : decode bLH_call 123 = .ok (.iload_n 1, 1) := by decide +kernel
theorem dLH_call_124 : decode bLH_call 124 = .ok (.iload_n 3, 1) := by decide +kernel
theorem dLH_call_125 : decode bLH_call 125 = .ok (.iload 4, 2) := by decide +kernel
theorem dLH_call_127 : decode bLH_call 127 = .ok (.iload 5, 2) := by decide +kernel
theorem dLH_call_129 : decode bLH_call 129 = .ok (.invokevirtual 99, 3) := by decide +kernel
theorem dLH_call_132 : decode bLH_call 132 = .ok (.aload_n 0, 1) := by decide +kernel
theorem dLH_call_133 : decode bLH_call 133 = .ok (.iconst 0, 1) := by decide +kernel
theorem dLH_call_134 : decode bLH_call 134 = .ok (.putfield 67, 3) := by decide +kernel
theorem dLH_call_137 : decode bLH_call 137 = .ok (.aload_n 0, 1) := by decide +kernel
theorem dLH_call_138 : decode bLH_call 138 = .ok (.dup, 1) := by decide +kernel
theorem dLH_call_139 : decode bLH_call 139 = .ok (.getfield 89, 3) := by decide +kernel
theorem dLH_call_142 : decode bLH_call 142 = .ok (.iconst 1, 1) := by decide +kernel
theorem dLH_call_143 : decode bLH_call 143 = .ok (.iadd, 1) := by decide +kernel
theorem dLH_call_144 : decode bLH_call 144 = .ok (.putfield 89, 3) := by decide +kernel
theorem dLH_call_147 : decode bLH_call 147 = .ok (.aload_n 0, 1) := by decide +kernel
theorem dLH_call_148 : decode bLH_call 148 = .ok (.dup, 1) := by decide +kernel
theorem dLH_call_149 : decode bLH_call 149 = .ok (.getfield 103, 3) := by decide +kernel
theorem dLH_call_152 : decode bLH_call 152 = .ok (.iconst 1, 1) := by decide +kernel
theorem dLH_call_153 : decode bLH_call 153 = .ok (.iadd, 1) := by decide +kernel
theorem dLH_call_154 : decode bLH_call 154 = .ok (.putfield 103, 3) := by decide +kernel
theorem dLH_call_157 : decode bLH_call 157 = .ok (.iload 7, 2) := by decide +kernel
theorem dLH_call_159 : decode bLH_call 159 = .ok (.ireturn, 1) := by decide +kernel
theorem dLH_checkProcess_0 : decode bLH_checkProcess 0 = .ok (.iload_n 1, 1) := by decide +kernel
theorem dLH_checkProcess_1 : decode bLH_checkProcess 1 = .ok (.ifCond .lt 9, 3) := by decide +kernel
theorem dLH_checkProcess_4 : decode bLH_checkProcess 4 = .ok (.iload_n 1, 1) := by decide +kernel
theorem dLH_checkProcess_5 : decode bLH_checkProcess 5 = .ok (.bipush 8, 2) := by decide +kernel
theorem dLH_checkProcess_7 : decode bLH_checkProcess 7 = .ok (.if_icmp .lt 13, 3) := by decide +kernel
theorem dLH_checkProcess_10 : decode bLH_checkProcess 10 = .ok (.new 51, 3) := by decide +kernel
theorem dLH_checkProcess_13 : decode bLH_checkProcess 13 = .ok (.dup, 1) := by decide +kernel
theorem dLH_checkProcess_14 : decode bLH_checkProcess 14 = .ok (.ldc 167, 2) := by decide +kernel
theorem dLH_checkProcess_16 : decode bLH_checkProcess 16 = .ok (.invokespecial 55, 3) := by decide +kernel
theorem dLH_checkProcess_19 : decode bLH_checkProcess 19 = .ok (.athrow, 1) := by decide +kernel
theorem dLH_checkProcess_20 : decode bLH_checkProcess 20 = .ok (.return_, 1) := by decide +kernel
theorem dLH_back_0 : decode bLH_back 0 = .ok (.aload_n 0, 1) := by decide +kernel
theorem dLH_back_1 : decode bLH_back 1 = .ok (.iload_n 1, 1) := by decide +kernel
theorem dLH_back_2 : decode bLH_back 2 = .ok (.invokevirtual 106, 3) := by decide +kernel
theorem dLH_back_5 : decode bLH_back 5 = .ok (.istore_n 3, 1) := by decide +kernel
theorem dLH_back_6 : decode bLH_back 6 = .ok (.aload_n 0, 1) := by decide +kernel
theorem dLH_back_7 : decode bLH_back 7 = .ok (.getfield 26, 3) := by decide +kernel
theorem dLH_back_10 : decode bLH_back 10 = .ok (.iload_n 1, 1) := by decide +kernel
theorem dLH_back_11 : decode bLH_back 11 = .ok (.iconst (-1), 1) := by decide +kernel
theorem dLH_back_12 : decode bLH_back 12 = .ok (.iastore, 1) := by decide +kernel
theorem dLH_back_13 : decode bLH_back 13 = .ok (.aload_n 0, 1) := by decide +kernel
theorem dLH_back_14 : decode bLH_back 14 = .ok (.dup, 1) := by decide +kernel
theorem dLH_back_15 : decode bLH_back 15 = .ok (.getfield 95, 3) := by decide +kernel
theorem dLH_back_18 : decode bLH_back 18 = .ok (.lconst 1, 1) := by decide +kernel
theorem dLH_back_19 : decode bLH_back 19 = .ok (.iload_n 3, 1) := by decide +kernel
theorem dLH_back_20 : decode bLH_back 20 = .ok (.lshl, 1) := by decide +kernel
theorem dLH_back_21 : decode bLH_back 21 = .ok (.lor, 1) := by decide +kernel
theorem dLH_back_22 : decode bLH_back 22 = .ok (.putfield 95, 3) := by decide +kernel
theorem dLH_back_25 : decode bLH_back 25 = .ok (.aload_n 0, 1) := by decide +kernel
theorem dLH_back_26 : decode bLH_back 26 = .ok (.iconst 0, 1) := by decide +kernel
theorem dLH_back_27 : decode bLH_back 27 = .ok (.putfield 67, 3) := by decide +kernel
theorem dLH_back_30 : decode bLH_back 30 = .ok (.aload_n 0, 1) := by decide +kernel
theorem dLH_back_31 : decode bLH_back 31 = .ok (.dup, 1) := by decide +kernel
theorem dLH_back_32 : decode bLH_back 32 = .ok (.getfield 103, 3) := by decide +kernel
theorem dLH_back_35 : decode bLH_back 35 = .ok (.iconst 1, 1) := by decide +kernel
theorem dLH_back_36 : decode bLH_back 36 = .ok (.iadd, 1) := by decide +kernel
theorem dLH_back_37 : decode bLH_back 37 = .ok (.putfield 103, 3) := by decide +kernel
theorem dLH_back_40 : decode bLH_back 40 = .ok (.aload_n 0, 1) := by decide +kernel
theorem dLH_back_41 : decode bLH_back 41 = .ok (.aload_n 0, 1) := by decide +kernel
theorem dLH_back_42 : decode bLH_back 42 = .ok (.getfield 15, 3) := by decide +kernel
theorem dLH_back_45 : decode bLH_back 45 = .ok (.iload_n 3, 1) := by decide +kernel
theorem dLH_back_46 : decode bLH_back 46 = .ok (.iaload, 1) := by decide +kernel
theorem dLH_back_47 : decode bLH_back 47 = .ok (.invokevirtual 74, 3) := by decide +kernel
theorem dLH_back_50 : decode bLH_back 50 = .ok (.aload_n 0, 1) := by decide +kernel
theorem dLH_back_51 : decode bLH_back 51 = .ok (.getfield 19, 3) := by decide +kernel
theorem dLH_back_54 : decode bLH_back 54 = .ok (.iload_n 3, 1) := by decide +kernel
theorem dLH_back_55 : decode bLH_back 55 = .ok (.iaload, 1) := by decide +kernel
theorem dLH_back_56 : decode bLH_back 56 = .ok (.iload_n 2, 1) := by decide +kernel
theorem dLH_back_57 : decode bLH_back 57 = .ok (.aload_n 0, 1) := by decide +kernel
theorem dLH_back_58 : decode bLH_back 58 = .ok (.getfield 103, 3) := by decide +kernel
theorem dLH_back_61 : decode bLH_back 61 = .ok (.invokevirtual 110, 3) := by decide +kernel
theorem dLH_back_64 : decode bLH_back 64 = .ok (.return_, 1) := by decide +kernel
end
section
theorem dLH_operationOf_0 : decode bLH_operationOf 0 = .ok (.aload_n 0, 1) := by decide +kernel
theorem dLH_operationOf_1 : decode bLH_operationOf 1 = .ok (.iload_n 1, 1) := by decide +kernel
theorem dLH_operationOf_2 : decode bLH_operationOf 2 = .ok (.invokevirtual 71, 3) := by decide +kernel
theorem dLH_operationOf_5 : decode bLH_operationOf 5 = .ok (.aload_n 0, 1) := by decide +kernel
theorem dLH_operationOf_6 : decode bLH_operationOf 6 = .ok (.getfield 26, 3) := by decide +kernel
theorem dLH_operationOf_9 : decode bLH_operationOf 9 = .ok (.iload_n 1, 1) := by decide +kernel
theorem dLH_operationOf_10 : decode bLH_operationOf 10 = .ok (.iaload, 1) := by decide +kernel
theorem dLH_operationOf_11 : decode bLH_operationOf 11 = .ok (.iconst (-1), 1) := by decide +kernel
theorem dLH_operationOf_12 : decode bLH_operationOf 12 = .ok (.if_icmp .ne 13, 3) := by decide +kernel
theorem dLH_operationOf_15 : decode bLH_operationOf 15 = .ok (.new 84, 3) := by decide +kernel
theorem dLH_operationOf_18 : decode bLH_operationOf 18 = .ok (.dup, 1) := by decide +kernel
theorem dLH_operationOf_19 : decode bLH_operationOf 19 = .ok (.ldc 169, 2) := by decide +kernel
theorem dLH_operationOf_21 : decode bLH_operationOf 21 = .ok (.invokespecial 88, 3) := by decide +kernel
theorem dLH_operationOf_24 : decode bLH_operationOf 24 = .ok (.athrow, 1) := by decide +kernel
theorem dLH_operationOf_25 : decode bLH_operationOf 25 = .ok (.aload_n 0, 1) := by decide +kernel
theorem dLH_operationOf_26 : decode bLH_operationOf 26 = .ok (.getfield 26, 3) := by decide +kernel
theorem dLH_operationOf_29 : decode bLH_operationOf 29 = .ok (.iload_n 1, 1) := by decide +kernel
theorem dLH_operationOf_30 : decode bLH_operationOf 30 = .ok (.iaload, 1) := by decide +kernel
theorem dLH_operationOf_31 : decode bLH_operationOf 31 = .ok (.ireturn, 1) := by decide +kernel
theorem dLH_lose_0 : decode bLH_lose 0 = .ok (.aload_n 0, 1) := by decide +kernel
theorem dLH_lose_1 : decode bLH_lose 1 = .ok (.iload_n 1, 1) := by decide +kernel
theorem dLH_lose_2 : decode bLH_lose 2 = .ok (.invokevirtual 106, 3) := by decide +kernel
theorem dLH_lose_5 : decode bLH_lose 5 = .ok (.pop, 1) := by decide +kernel
theorem dLH_lose_6 : decode bLH_lose 6 = .ok (.aload_n 0, 1) := by decide +kernel
theorem dLH_lose_7 : decode bLH_lose 7 = .ok (.getfield 26, 3) := by decide +kernel
theorem dLH_lose_10 : decode bLH_lose 10 = .ok (.iload_n 1, 1) := by decide +kernel
theorem dLH_lose_11 : decode bLH_lose 11 = .ok (.iconst (-1), 1) := by decide +kernel
theorem dLH_lose_12 : decode bLH_lose 12 = .ok (.iastore, 1) := by decide +kernel
theorem dLH_lose_13 : decode bLH_lose 13 = .ok (.aload_n 0, 1) := by decide +kernel
theorem dLH_lose_14 : decode bLH_lose 14 = .ok (.dup, 1) := by decide +kernel
theorem dLH_lose_15 : decode bLH_lose 15 = .ok (.getfield 103, 3) := by decide +kernel
theorem dLH_lose_18 : decode bLH_lose 18 = .ok (.iconst 1, 1) := by decide +kernel
theorem dLH_lose_19 : decode bLH_lose 19 = .ok (.iadd, 1) := by decide +kernel
theorem dLH_lose_20 : decode bLH_lose 20 = .ok (.putfield 103, 3) := by decide +kernel
theorem dLH_lose_23 : decode bLH_lose 23 = .ok (.return_, 1) := by decide +kernel
theorem dLH_possibilities_0 : decode bLH_possibilities 0 = .ok (.aload_n 0, 1) := by decide +kernel
theorem dLH_possibilities_1 : decode bLH_possibilities 1 = .ok (.iload_n 1, 1) := by decide +kernel
theorem dLH_possibilities_2 : decode bLH_possibilities 2 = .ok (.invokevirtual 114, 3) := by decide +kernel
theorem dLH_possibilities_5 : decode bLH_possibilities 5 = .ok (.getfield 117, 3) := by decide +kernel
theorem dLH_possibilities_8 : decode bLH_possibilities 8 = .ok (.ireturn, 1) := by decide +kernel
theorem dLH_learnedSubject_0 : decode bLH_learnedSubject 0 = .ok (.aload_n 0, 1) := by decide +kernel
theorem dLH_learnedSubject_1 : decode bLH_learnedSubject 1 = .ok (.iload_n 1, 1) := by decide +kernel
theorem dLH_learnedSubject_2 : decode bLH_learnedSubject 2 = .ok (.invokevirtual 74, 3) := by decide +kernel
theorem dLH_learnedSubject_5 : decode bLH_learnedSubject 5 = .ok (.astore_n 2, 1) := by decide +kernel
theorem dLH_learnedSubject_6 : decode bLH_learnedSubject 6 = .ok (.aload_n 2, 1) := by decide +kernel
theorem dLH_learnedSubject_7 : decode bLH_learnedSubject 7 = .ok (.aload_n 0, 1) := by decide +kernel
theorem dLH_learnedSubject_8 : decode bLH_learnedSubject 8 = .ok (.getfield 32, 3) := by decide +kernel
theorem dLH_learnedSubject_11 : decode bLH_learnedSubject 11 = .ok (.invokevirtual 142, 3) := by decide +kernel
theorem dLH_learnedSubject_14 : decode bLH_learnedSubject 14 = .ok (.aload_n 2, 1) := by decide +kernel
theorem dLH_learnedSubject_15 : decode bLH_learnedSubject 15 = .ok (.areturn, 1) := by decide +kernel
theorem dLH_judge_0 : decode bLH_judge 0 = .ok (.aload_n 0, 1) := by decide +kernel
theorem dLH_judge_1 : decode bLH_judge 1 = .ok (.iload_n 1, 1) := by decide +kernel
theorem dLH_judge_2 : decode bLH_judge 2 = .ok (.invokevirtual 114, 3) := by decide +kernel
theorem dLH_judge_5 : decode bLH_judge 5 = .ok (.getfield 120, 3) := by decide +kernel
theorem dLH_judge_8 : decode bLH_judge 8 = .ok (.ireturn, 1) := by decide +kernel
theorem dLH_judgeOwn_0 : decode bLH_judgeOwn 0 = .ok (.aload_n 0, 1) := by decide +kernel
theorem dLH_judgeOwn_1 : decode bLH_judgeOwn 1 = .ok (.iload_n 1, 1) := by decide +kernel
theorem dLH_judgeOwn_2 : decode bLH_judgeOwn 2 = .ok (.invokevirtual 74, 3) := by decide +kernel
theorem dLH_judgeOwn_5 : decode bLH_judgeOwn 5 = .ok (.astore_n 2, 1) := by decide +kernel
theorem dLH_judgeOwn_6 : decode bLH_judgeOwn 6 = .ok (.aload_n 2, 1) := by decide +kernel
theorem dLH_judgeOwn_7 : decode bLH_judgeOwn 7 = .ok (.aload_n 0, 1) := by decide +kernel
theorem dLH_judgeOwn_8 : decode bLH_judgeOwn 8 = .ok (.getfield 32, 3) := by decide +kernel
theorem dLH_judgeOwn_11 : decode bLH_judgeOwn 11 = .ok (.invokevirtual 123, 3) := by decide +kernel
theorem dLH_judgeOwn_14 : decode bLH_judgeOwn 14 = .ok (.aload_n 2, 1) := by decide +kernel
theorem dLH_judgeOwn_15 : decode bLH_judgeOwn 15 = .ok (.getfield 127, 3) := by decide +kernel
theorem dLH_judgeOwn_18 : decode bLH_judgeOwn 18 = .ok (.ireturn, 1) := by decide +kernel
theorem dLH_ways_0 : decode bLH_ways 0 = .ok (.aload_n 0, 1) := by decide +kernel
theorem dLH_ways_1 : decode bLH_ways 1 = .ok (.iload_n 1, 1) := by decide +kernel
theorem dLH_ways_2 : decode bLH_ways 2 = .ok (.invokevirtual 114, 3) := by decide +kernel
theorem dLH_ways_5 : decode bLH_ways 5 = .ok (.getfield 130, 3) := by decide +kernel
theorem dLH_ways_8 : decode bLH_ways 8 = .ok (.lreturn, 1) := by decide +kernel
theorem dLH_lasts_0 : decode bLH_lasts 0 = .ok (.aload_n 0, 1) := by decide +kernel
theorem dLH_lasts_1 : decode bLH_lasts 1 = .ok (.iload_n 1, 1) := by decide +kernel
theorem dLH_lasts_2 : decode bLH_lasts 2 = .ok (.invokevirtual 114, 3) := by decide +kernel
theorem dLH_lasts_5 : decode bLH_lasts 5 = .ok (.getfield 133, 3) := by decide +kernel
theorem dLH_lasts_8 : decode bLH_lasts 8 = .ok (.ireturn, 1) := by decide +kernel
theorem dLH_broken_0 : decode bLH_broken 0 = .ok (.aload_n 0, 1) := by decide +kernel
theorem dLH_broken_1 : decode bLH_broken 1 = .ok (.iload_n 1, 1) := by decide +kernel
theorem dLH_broken_2 : decode bLH_broken 2 = .ok (.invokevirtual 74, 3) := by decide +kernel
theorem dLH_broken_5 : decode bLH_broken 5 = .ok (.astore_n 2, 1) := by decide +kernel
theorem dLH_broken_6 : decode bLH_broken 6 = .ok (.aload_n 2, 1) := by decide +kernel
theorem dLH_broken_7 : decode bLH_broken 7 = .ok (.aload_n 0, 1) := by decide +kernel
theorem dLH_broken_8 : decode bLH_broken 8 = .ok (.getfield 32, 3) := by decide +kernel
theorem dLH_broken_11 : decode bLH_broken 11 = .ok (.invokevirtual 136, 3) := by decide +kernel
theorem dLH_broken_14 : decode bLH_broken 14 = .ok (.aload_n 2, 1) := by decide +kernel
theorem dLH_broken_15 : decode bLH_broken 15 = .ok (.getfield 139, 3) := by decide +kernel
theorem dLH_broken_18 : decode bLH_broken 18 = .ok (.ireturn, 1) := by decide +kernel
theorem dLH_length_0 : decode bLH_length 0 = .ok (.aload_n 0, 1) := by decide +kernel
theorem dLH_length_1 : decode bLH_length 1 = .ok (.aload_n 0, 1) := by decide +kernel
theorem dLH_length_2 : decode bLH_length 2 = .ok (.invokevirtual 145, 3) := by decide +kernel
theorem dLH_length_5 : decode bLH_length 5 = .ok (.invokevirtual 148, 3) := by decide +kernel
theorem dLH_length_8 : decode bLH_length 8 = .ok (.aload_n 0, 1) := by decide +kernel
theorem dLH_length_9 : decode bLH_length 9 = .ok (.invokevirtual 151, 3) := by decide +kernel
theorem dLH_length_12 : decode bLH_length 12 = .ok (.aload_n 0, 1) := by decide +kernel
theorem dLH_length_13 : decode bLH_length 13 = .ok (.getfield 154, 3) := by decide +kernel
theorem dLH_length_16 : decode bLH_length 16 = .ok (.ireturn, 1) := by decide +kernel
theorem dLH_checkLinear_0 : decode bLH_checkLinear 0 = .ok (.iload_n 1, 1) := by decide +kernel
theorem dLH_checkLinear_1 : decode bLH_checkLinear 1 = .ok (.iconst 1, 1) := by decide +kernel
theorem dLH_checkLinear_2 : decode bLH_checkLinear 2 = .ok (.if_icmp .eq 13, 3) := by decide +kernel
theorem dLH_checkLinear_5 : decode bLH_checkLinear 5 = .ok (.new 84, 3) := by decide +kernel
theorem dLH_checkLinear_8 : decode bLH_checkLinear 8 = .ok (.dup, 1) := by decide +kernel
theorem dLH_checkLinear_9 : decode bLH_checkLinear 9 = .ok (.ldc 160, 2) := by decide +kernel
theorem dLH_checkLinear_11 : decode bLH_checkLinear 11 = .ok (.invokespecial 88, 3) := by decide +kernel
theorem dLH_checkLinear_14 : decode bLH_checkLinear 14 = .ok (.athrow, 1) := by decide +kernel
theorem dLH_checkLinear_15 : decode bLH_checkLinear 15 = .ok (.return_, 1) := by decide +kernel
theorem dLH_buildRow_0 : decode bLH_buildRow 0 = .ok (.aload_n 0, 1) := by decide +kernel
theorem dLH_buildRow_1 : decode bLH_buildRow 1 = .ok (.getfield 67, 3) := by decide +kernel
theorem dLH_buildRow_4 : decode bLH_buildRow 4 = .ok (.ifCond .eq 4, 3) := by decide +kernel
theorem dLH_buildRow_7 : decode bLH_buildRow 7 = .ok (.return_, 1) := by decide +kernel
theorem dLH_buildRow_8 : decode bLH_buildRow 8 = .ok (.iconst 0, 1) := by decide +kernel
theorem dLH_buildRow_9 : decode bLH_buildRow 9 = .ok (.istore_n 1, 1) := by decide +kernel
theorem dLH_buildRow_10 : decode bLH_buildRow 10 = .ok (.iload_n 1, 1) := by decide +kernel
theorem dLH_buildRow_11 : decode bLH_buildRow 11 = .ok (.aload_n 0, 1) := by decide +kernel
theorem dLH_buildRow_12 : decode bLH_buildRow 12 = .ok (.getfield 58, 3) := by decide +kernel
theorem dLH_buildRow_15 : decode bLH_buildRow 15 = .ok (.if_icmp .ge 30, 3) := by decide +kernel
theorem dLH_buildRow_18 : decode bLH_buildRow 18 = .ok (.aload_n 0, 1) := by decide +kernel
theorem dLH_buildRow_19 : decode bLH_buildRow 19 = .ok (.iload_n 1, 1) := by decide +kernel
theorem dLH_buildRow_20 : decode bLH_buildRow 20 = .ok (.invokevirtual 74, 3) := by decide +kernel
theorem dLH_buildRow_23 : decode bLH_buildRow 23 = .ok (.astore_n 2, 1) := by decide +kernel
theorem dLH_buildRow_24 : decode bLH_buildRow 24 = .ok (.aload_n 2, 1) := by decide +kernel
theorem dLH_buildRow_25 : decode bLH_buildRow 25 = .ok (.getfield 173, 3) := by decide +kernel
theorem dLH_buildRow_28 : decode bLH_buildRow 28 = .ok (.aload_n 2, 1) := by decide +kernel
theorem dLH_buildRow_29 : decode bLH_buildRow 29 = .ok (.invokevirtual 176, 3) := by decide +kernel
theorem dLH_buildRow_32 : decode bLH_buildRow 32 = .ok (.aload_n 0, 1) := by decide +kernel
theorem dLH_buildRow_33 : decode bLH_buildRow 33 = .ok (.getfield 42, 3) := by decide +kernel
theorem dLH_buildRow_36 : decode bLH_buildRow 36 = .ok (.iload_n 1, 1) := by decide +kernel
theorem dLH_buildRow_37 : decode bLH_buildRow 37 = .ok (.iconst 0, 1) := by decide +kernel
theorem dLH_buildRow_38 : decode bLH_buildRow 38 = .ok (.iastore, 1) := by decide +kernel
theorem dLH_buildRow_39 : decode bLH_buildRow 39 = .ok (.iinc 1 1, 3) := by decide +kernel
theorem dLH_buildRow_42 : decode bLH_buildRow 42 = .ok (.goto (-32), 3) := by decide +kernel
theorem dLH_buildRow_45 : decode bLH_buildRow 45 = .ok (.lconst 0, 1) := by decide +kernel
theorem dLH_buildRow_46 : decode bLH_buildRow 46 = .ok (.lstore_n 1, 1) := by decide +kernel
theorem dLH_buildRow_47 : decode bLH_buildRow 47 = .ok (.aload_n 0, 1) := by decide +kernel
theorem dLH_buildRow_48 : decode bLH_buildRow 48 = .ok (.iconst 0, 1) := by decide +kernel
theorem dLH_buildRow_49 : decode bLH_buildRow 49 = .ok (.putfield 154, 3) := by decide +kernel
theorem dLH_buildRow_52 : decode bLH_buildRow 52 = .ok (.aload_n 0, 1) := by decide +kernel
theorem dLH_buildRow_53 : decode bLH_buildRow 53 = .ok (.getfield 154, 3) := by decide +kernel
theorem dLH_buildRow_56 : decode bLH_buildRow 56 = .ok (.aload_n 0, 1) := by decide +kernel
theorem dLH_buildRow_57 : decode bLH_buildRow 57 = .ok (.getfield 89, 3) := by decide +kernel
theorem dLH_buildRow_60 : decode bLH_buildRow 60 = .ok (.if_icmp .ge 43, 3) := by decide +kernel
theorem dLH_buildRow_63 : decode bLH_buildRow 63 = .ok (.aload_n 0, 1) := by decide +kernel
theorem dLH_buildRow_64 : decode bLH_buildRow 64 = .ok (.invokevirtual 180, 3) := by decide +kernel
theorem dLH_buildRow_67 : decode bLH_buildRow 67 = .ok (.ifCond .ne 36, 3) := by decide +kernel
theorem dLH_buildRow_70 : decode bLH_buildRow 70 = .ok (.aload_n 0, 1) := by decide +kernel
theorem dLH_buildRow_71 : decode bLH_buildRow 71 = .ok (.lload_n 1, 1) := by decide +kernel
theorem dLH_buildRow_72 : decode bLH_buildRow 72 = .ok (.invokevirtual 184, 3) := by decide +kernel
theorem dLH_buildRow_75 : decode bLH_buildRow 75 = .ok (.istore_n 3, 1) := by decide +kernel
theorem dLH_buildRow_76 : decode bLH_buildRow 76 = .ok (.iload_n 3, 1) := by decide +kernel
theorem dLH_buildRow_77 : decode bLH_buildRow 77 = .ok (.iconst (-1), 1) := by decide +kernel
theorem dLH_buildRow_78 : decode bLH_buildRow 78 = .ok (.if_icmp .ne 6, 3) := by decide +kernel
theorem dLH_buildRow_81 : decode bLH_buildRow 81 = .ok (.goto 22, 3) := by decide +kernel
theorem dLH_buildRow_84 : decode bLH_buildRow 84 = .ok (.lload_n 1, 1) := by decide +kernel
theorem dLH_buildRow_85 : decode bLH_buildRow 85 = .ok (.lconst 1, 1) := by decide +kernel
theorem dLH_buildRow_86 : decode bLH_buildRow 86 = .ok (.iload_n 3, 1) := by decide +kernel
theorem dLH_buildRow_87 : decode bLH_buildRow 87 = .ok (.lshl, 1) := by decide +kernel
theorem dLH_buildRow_88 : decode bLH_buildRow 88 = .ok (.lor, 1) := by decide +kernel
theorem dLH_buildRow_89 : decode bLH_buildRow 89 = .ok (.lstore_n 1, 1) := by decide +kernel
theorem dLH_buildRow_90 : decode bLH_buildRow 90 = .ok (.aload_n 0, 1) := by decide +kernel
theorem dLH_buildRow_91 : decode bLH_buildRow 91 = .ok (.dup, 1) := by decide +kernel
theorem dLH_buildRow_92 : decode bLH_buildRow 92 = .ok (.getfield 154, 3) := by decide +kernel
theorem dLH_buildRow_95 : decode bLH_buildRow 95 = .ok (.iconst 1, 1) := by decide +kernel
theorem dLH_buildRow_96 : decode bLH_buildRow 96 = .ok (.iadd, 1) := by decide +kernel
theorem dLH_buildRow_97 : decode bLH_buildRow 97 = .ok (.putfield 154, 3) := by decide +kernel
theorem dLH_buildRow_100 : decode bLH_buildRow 100 = .ok (.goto (-48), 3) := by decide +kernel
theorem dLH_buildRow_103 : decode bLH_buildRow 103 = .ok (.aload_n 0, 1) := by decide +kernel
theorem dLH_buildRow_104 : decode bLH_buildRow 104 = .ok (.iconst 1, 1) := by decide +kernel
theorem dLH_buildRow_105 : decode bLH_buildRow 105 = .ok (.putfield 67, 3) := by decide +kernel
theorem dLH_buildRow_108 : decode bLH_buildRow 108 = .ok (.return_, 1) := by decide +kernel
theorem dLH_allAtEnds_0 : decode bLH_allAtEnds 0 = .ok (.iconst 0, 1) := by decide +kernel
theorem dLH_allAtEnds_1 : decode bLH_allAtEnds 1 = .ok (.istore_n 1, 1) := by decide +kernel
theorem dLH_allAtEnds_2 : decode bLH_allAtEnds 2 = .ok (.iload_n 1, 1) := by decide +kernel
theorem dLH_allAtEnds_3 : decode bLH_allAtEnds 3 = .ok (.aload_n 0, 1) := by decide +kernel
theorem dLH_allAtEnds_4 : decode bLH_allAtEnds 4 = .ok (.getfield 58, 3) := by decide +kernel
theorem dLH_allAtEnds_7 : decode bLH_allAtEnds 7 = .ok (.if_icmp .ge 31, 3) := by decide +kernel
theorem dLH_allAtEnds_10 : decode bLH_allAtEnds 10 = .ok (.aload_n 0, 1) := by decide +kernel
theorem dLH_allAtEnds_11 : decode bLH_allAtEnds 11 = .ok (.iload_n 1, 1) := by decide +kernel
theorem dLH_allAtEnds_12 : decode bLH_allAtEnds 12 = .ok (.invokevirtual 74, 3) := by decide +kernel
theorem dLH_allAtEnds_15 : decode bLH_allAtEnds 15 = .ok (.getfield 173, 3) := by decide +kernel
theorem dLH_allAtEnds_18 : decode bLH_allAtEnds 18 = .ok (.aload_n 0, 1) := by decide +kernel
theorem dLH_allAtEnds_19 : decode bLH_allAtEnds 19 = .ok (.getfield 42, 3) := by decide +kernel
theorem dLH_allAtEnds_22 : decode bLH_allAtEnds 22 = .ok (.iload_n 1, 1) := by decide +kernel
theorem dLH_allAtEnds_23 : decode bLH_allAtEnds 23 = .ok (.iaload, 1) := by decide +kernel
theorem dLH_allAtEnds_24 : decode bLH_allAtEnds 24 = .ok (.invokevirtual 188, 3) := by decide +kernel
theorem dLH_allAtEnds_27 : decode bLH_allAtEnds 27 = .ok (.ifCond .ne 5, 3) := by decide +kernel
theorem dLH_allAtEnds_30 : decode bLH_allAtEnds 30 = .ok (.iconst 0, 1) := by decide +kernel
theorem dLH_allAtEnds_31 : decode bLH_allAtEnds 31 = .ok (.ireturn, 1) := by decide +kernel
theorem dLH_allAtEnds_32 : decode bLH_allAtEnds 32 = .ok (.iinc 1 1, 3) := by decide +kernel
theorem dLH_allAtEnds_35 : decode bLH_allAtEnds 35 = .ok (.goto (-33), 3) := by decide +kernel
theorem dLH_allAtEnds_38 : decode bLH_allAtEnds 38 = .ok (.iconst 1, 1) := by decide +kernel
theorem dLH_allAtEnds_39 : decode bLH_allAtEnds 39 = .ok (.ireturn, 1) := by decide +kernel
theorem dLH_placeNext_0 : decode bLH_placeNext 0 = .ok (.iconst 0, 1) := by decide +kernel
theorem dLH_placeNext_1 : decode bLH_placeNext 1 = .ok (.istore_n 3, 1) := by decide +kernel
theorem dLH_placeNext_2 : decode bLH_placeNext 2 = .ok (.iload_n 3, 1) := by decide +kernel
theorem dLH_placeNext_3 : decode bLH_placeNext 3 = .ok (.aload_n 0, 1) := by decide +kernel
theorem dLH_placeNext_4 : decode bLH_placeNext 4 = .ok (.getfield 89, 3) := by decide +kernel
theorem dLH_placeNext_7 : decode bLH_placeNext 7 = .ok (.if_icmp .ge 153, 3) := by decide +kernel
theorem dLH_placeNext_10 : decode bLH_placeNext 10 = .ok (.lload_n 1, 1) := by decide +kernel
theorem dLH_placeNext_11 : decode bLH_placeNext 11 = .ok (.iload_n 3, 1) := by decide +kernel
theorem dLH_placeNext_12 : decode bLH_placeNext 12 = .ok (.lushr, 1) := by decide +kernel
theorem dLH_placeNext_13 : decode bLH_placeNext 13 = .ok (.lconst 1, 1) := by decide +kernel
theorem dLH_placeNext_14 : decode bLH_placeNext 14 = .ok (.land, 1) := by decide +kernel
theorem dLH_placeNext_15 : decode bLH_placeNext 15 = .ok (.lconst 0, 1) := by decide +kernel
theorem dLH_placeNext_16 : decode bLH_placeNext 16 = .ok (.lcmp, 1) := by decide +kernel
theorem dLH_placeNext_17 : decode bLH_placeNext 17 = .ok (.ifCond .eq 7, 3) := by decide +kernel
theorem dLH_placeNext_20 : decode bLH_placeNext 20 = .ok (.iconst 1, 1) := by decide +kernel
theorem dLH_placeNext_21 : decode bLH_placeNext 21 = .ok (.goto 4, 3) := by decide +kernel
theorem dLH_placeNext_24 : decode bLH_placeNext 24 = .ok (.iconst 0, 1) := by decide +kernel
theorem dLH_placeNext_25 : decode bLH_placeNext 25 = .ok (.istore 4, 2) := by decide +kernel
theorem dLH_placeNext_27 : decode bLH_placeNext 27 = .ok (.iload 4, 2) := by decide +kernel
theorem dLH_placeNext_29 : decode bLH_placeNext 29 = .ok (.ifCond .ne 125, 3) := by decide +kernel
theorem dLH_placeNext_32 : decode bLH_placeNext 32 = .ok (.aload_n 0, 1) := by decide +kernel
theorem dLH_placeNext_33 : decode bLH_placeNext 33 = .ok (.getfield 22, 3) := by decide +kernel
theorem dLH_placeNext_36 : decode bLH_placeNext 36 = .ok (.iload_n 3, 1) := by decide +kernel
theorem dLH_placeNext_37 : decode bLH_placeNext 37 = .ok (.laload, 1) := by decide +kernel
theorem dLH_placeNext_38 : decode bLH_placeNext 38 = .ok (.lload_n 1, 1) := by decide +kernel
theorem dLH_placeNext_39 : decode bLH_placeNext 39 = .ok (.ldc2_w 192, 3) := by decide +kernel
theorem dLH_placeNext_42 : decode bLH_placeNext 42 = .ok (.lxor, 1) := by decide +kernel
theorem dLH_placeNext_43 : decode bLH_placeNext 43 = .ok (.land, 1) := by decide +kernel
theorem dLH_placeNext_44 : decode bLH_placeNext 44 = .ok (.lconst 0, 1) := by decide +kernel
theorem dLH_placeNext_45 : decode bLH_placeNext 45 = .ok (.lcmp, 1) := by decide +kernel
theorem dLH_placeNext_46 : decode bLH_placeNext 46 = .ok (.ifCond .eq 6, 3) := by decide +kernel
theorem dLH_placeNext_49 : decode bLH_placeNext 49 = .ok (.goto 105, 3) := by decide +kernel
theorem dLH_placeNext_52 : decode bLH_placeNext 52 = .ok (.aload_n 0, 1) := by decide +kernel
theorem dLH_placeNext_53 : decode bLH_placeNext 53 = .ok (.getfield 15, 3) := by decide +kernel
theorem dLH_placeNext_56 : decode bLH_placeNext 56 = .ok (.iload_n 3, 1) := by decide +kernel
theorem dLH_placeNext_57 : decode bLH_placeNext 57 = .ok (.iaload, 1) := by decide +kernel
theorem dLH_placeNext_58 : decode bLH_placeNext 58 = .ok (.istore 5, 2) := by decide +kernel
theorem dLH_placeNext_60 : decode bLH_placeNext 60 = .ok (.aload_n 0, 1) := by decide +kernel
theorem dLH_placeNext_61 : decode bLH_placeNext 61 = .ok (.iload 5, 2) := by decide +kernel
theorem dLH_placeNext_63 : decode bLH_placeNext 63 = .ok (.invokevirtual 74, 3) := by decide +kernel
theorem dLH_placeNext_66 : decode bLH_placeNext 66 = .ok (.astore 6, 2) := by decide +kernel
theorem dLH_placeNext_68 : decode bLH_placeNext 68 = .ok (.aload 6, 2) := by decide +kernel
theorem dLH_placeNext_70 : decode bLH_placeNext 70 = .ok (.getfield 173, 3) := by decide +kernel
theorem dLH_placeNext_73 : decode bLH_placeNext 73 = .ok (.aload 6, 2) := by decide +kernel
theorem dLH_placeNext_75 : decode bLH_placeNext 75 = .ok (.aload_n 0, 1) := by decide +kernel
theorem dLH_placeNext_76 : decode bLH_placeNext 76 = .ok (.getfield 42, 3) := by decide +kernel
theorem dLH_placeNext_79 : decode bLH_placeNext 79 = .ok (.iload 5, 2) := by decide +kernel
theorem dLH_placeNext_81 : decode bLH_placeNext 81 = .ok (.iaload, 1) := by decide +kernel
theorem dLH_placeNext_82 : decode bLH_placeNext 82 = .ok (.aload_n 0, 1) := by decide +kernel
theorem dLH_placeNext_83 : decode bLH_placeNext 83 = .ok (.getfield 19, 3) := by decide +kernel
theorem dLH_placeNext_86 : decode bLH_placeNext 86 = .ok (.iload_n 3, 1) := by decide +kernel
theorem dLH_placeNext_87 : decode bLH_placeNext 87 = .ok (.iaload, 1) := by decide +kernel
theorem dLH_placeNext_88 : decode bLH_placeNext 88 = .ok (.invokevirtual 194, 3) := by decide +kernel
theorem dLH_placeNext_91 : decode bLH_placeNext 91 = .ok (.istore 7, 2) := by decide +kernel
theorem dLH_placeNext_93 : decode bLH_placeNext 93 = .ok (.iload 7, 2) := by decide +kernel
theorem dLH_placeNext_95 : decode bLH_placeNext 95 = .ok (.iconst (-1), 1) := by decide +kernel
theorem dLH_placeNext_96 : decode bLH_placeNext 96 = .ok (.if_icmp .eq 58, 3) := by decide +kernel
theorem dLH_placeNext_99 : decode bLH_placeNext 99 = .ok (.aload 6, 2) := by decide +kernel
theorem dLH_placeNext_101 : decode bLH_placeNext 101 = .ok (.getfield 173, 3) := by decide +kernel
theorem dLH_placeNext_104 : decode bLH_placeNext 104 = .ok (.getfield 198, 3) := by decide +kernel
theorem dLH_placeNext_107 : decode bLH_placeNext 107 = .ok (.iload 7, 2) := by decide +kernel
theorem dLH_placeNext_109 : decode bLH_placeNext 109 = .ok (.baload, 1) := by decide +kernel
theorem dLH_placeNext_110 : decode bLH_placeNext 110 = .ok (.ifCond .eq 44, 3) := by decide +kernel
theorem dLH_placeNext_113 : decode bLH_placeNext 113 = .ok (.aload_n 0, 1) := by decide +kernel
theorem dLH_placeNext_114 : decode bLH_placeNext 114 = .ok (.getfield 42, 3) := by decide +kernel
theorem dLH_placeNext_117 : decode bLH_placeNext 117 = .ok (.iload 5, 2) := by decide +kernel
theorem dLH_placeNext_119 : decode bLH_placeNext 119 = .ok (.iload 7, 2) := by decide +kernel
theorem dLH_placeNext_121 : decode bLH_placeNext 121 = .ok (.iastore, 1) := by decide +kernel
theorem dLH_placeNext_122 : decode bLH_placeNext 122 = .ok (.aload_n 0, 1) := by decide +kernel
theorem dLH_placeNext_123 : decode bLH_placeNext 123 = .ok (.getfield 36, 3) := by decide +kernel
theorem dLH_placeNext_126 : decode bLH_placeNext 126 = .ok (.aload_n 0, 1) := by decide +kernel
theorem dLH_placeNext_127 : decode bLH_placeNext 127 = .ok (.getfield 154, 3) := by decide +kernel
theorem dLH_placeNext_130 : decode bLH_placeNext 130 = .ok (.iload_n 3, 1) := by decide +kernel
theorem dLH_placeNext_131 : decode bLH_placeNext 131 = .ok (.iastore, 1) := by decide +kernel
theorem dLH_placeNext_132 : decode bLH_placeNext 132 = .ok (.aload_n 0, 1) := by decide +kernel
theorem dLH_placeNext_133 : decode bLH_placeNext 133 = .ok (.getfield 39, 3) := by decide +kernel
theorem dLH_placeNext_136 : decode bLH_placeNext 136 = .ok (.aload_n 0, 1) := by decide +kernel
theorem dLH_placeNext_137 : decode bLH_placeNext 137 = .ok (.getfield 154, 3) := by decide +kernel
theorem dLH_placeNext_140 : decode bLH_placeNext 140 = .ok (.aload 6, 2) := by decide +kernel
theorem dLH_placeNext_142 : decode bLH_placeNext 142 = .ok (.getfield 173, 3) := by decide +kernel
theorem dLH_placeNext_145 : decode bLH_placeNext 145 = .ok (.getfield 202, 3) := by decide +kernel
theorem dLH_placeNext_148 : decode bLH_placeNext 148 = .ok (.getfield 206, 3) := by decide +kernel
theorem dLH_placeNext_151 : decode bLH_placeNext 151 = .ok (.iastore, 1) := by decide +kernel
theorem dLH_placeNext_152 : decode bLH_placeNext 152 = .ok (.iload_n 3, 1) := by decide +kernel
theorem dLH_placeNext_153 : decode bLH_placeNext 153 = .ok (.ireturn, 1) := by decide +kernel
theorem dLH_placeNext_154 : decode bLH_placeNext 154 = .ok (.iinc 3 1, 3) := by decide +kernel
theorem dLH_placeNext_157 : decode bLH_placeNext 157 = .ok (.goto (-155), 3) := by decide +kernel
theorem dLH_placeNext_160 : decode bLH_placeNext 160 = .ok (.iconst (-1), 1) := by decide +kernel
theorem dLH_placeNext_161 : decode bLH_placeNext 161 = .ok (.ireturn, 1) := by decide +kernel
theorem dLH_row_0 : decode bLH_row 0 = .ok (.aload_n 0, 1) := by decide +kernel
theorem dLH_row_1 : decode bLH_row 1 = .ok (.aload_n 0, 1) := by decide +kernel
theorem dLH_row_2 : decode bLH_row 2 = .ok (.invokevirtual 145, 3) := by decide +kernel
theorem dLH_row_5 : decode bLH_row 5 = .ok (.invokevirtual 148, 3) := by decide +kernel
theorem dLH_row_8 : decode bLH_row 8 = .ok (.aload_n 0, 1) := by decide +kernel
theorem dLH_row_9 : decode bLH_row 9 = .ok (.invokevirtual 151, 3) := by decide +kernel
theorem dLH_row_12 : decode bLH_row 12 = .ok (.aload_n 0, 1) := by decide +kernel
theorem dLH_row_13 : decode bLH_row 13 = .ok (.iload_n 1, 1) := by decide +kernel
theorem dLH_row_14 : decode bLH_row 14 = .ok (.invokevirtual 157, 3) := by decide +kernel
theorem dLH_row_17 : decode bLH_row 17 = .ok (.aload_n 0, 1) := by decide +kernel
theorem dLH_row_18 : decode bLH_row 18 = .ok (.getfield 36, 3) := by decide +kernel
theorem dLH_row_21 : decode bLH_row 21 = .ok (.iload_n 1, 1) := by decide +kernel
theorem dLH_row_22 : decode bLH_row 22 = .ok (.iaload, 1) := by decide +kernel
theorem dLH_row_23 : decode bLH_row 23 = .ok (.ireturn, 1) := by decide +kernel
theorem dLH_checkPlace_0 : decode bLH_checkPlace 0 = .ok (.iload_n 1, 1) := by decide +kernel
theorem dLH_checkPlace_1 : decode bLH_checkPlace 1 = .ok (.ifCond .lt 11, 3) := by decide +kernel
theorem dLH_checkPlace_4 : decode bLH_checkPlace 4 = .ok (.iload_n 1, 1) := by decide +kernel
theorem dLH_checkPlace_5 : decode bLH_checkPlace 5 = .ok (.aload_n 0, 1) := by decide +kernel
theorem dLH_checkPlace_6 : decode bLH_checkPlace 6 = .ok (.getfield 154, 3) := by decide +kernel
theorem dLH_checkPlace_9 : decode bLH_checkPlace 9 = .ok (.if_icmp .lt 13, 3) := by decide +kernel
theorem dLH_checkPlace_12 : decode bLH_checkPlace 12 = .ok (.new 162, 3) := by decide +kernel
theorem dLH_checkPlace_15 : decode bLH_checkPlace 15 = .ok (.dup, 1) := by decide +kernel
theorem dLH_checkPlace_16 : decode bLH_checkPlace 16 = .ok (.ldc 164, 2) := by decide +kernel
theorem dLH_checkPlace_18 : decode bLH_checkPlace 18 = .ok (.invokespecial 166, 3) := by decide +kernel
theorem dLH_checkPlace_21 : decode bLH_checkPlace 21 = .ok (.athrow, 1) := by decide +kernel
theorem dLH_checkPlace_22 : decode bLH_checkPlace 22 = .ok (.return_, 1) := by decide +kernel
theorem dLH_result_0 : decode bLH_result 0 = .ok (.aload_n 0, 1) := by decide +kernel
theorem dLH_result_1 : decode bLH_result 1 = .ok (.aload_n 0, 1) := by decide +kernel
theorem dLH_result_2 : decode bLH_result 2 = .ok (.invokevirtual 145, 3) := by decide +kernel
theorem dLH_result_5 : decode bLH_result 5 = .ok (.invokevirtual 148, 3) := by decide +kernel
theorem dLH_result_8 : decode bLH_result 8 = .ok (.aload_n 0, 1) := by decide +kernel
theorem dLH_result_9 : decode bLH_result 9 = .ok (.invokevirtual 151, 3) := by decide +kernel
theorem dLH_result_12 : decode bLH_result 12 = .ok (.aload_n 0, 1) := by decide +kernel
theorem dLH_result_13 : decode bLH_result 13 = .ok (.iload_n 1, 1) := by decide +kernel
theorem dLH_result_14 : decode bLH_result 14 = .ok (.invokevirtual 157, 3) := by decide +kernel
theorem dLH_result_17 : decode bLH_result 17 = .ok (.aload_n 0, 1) := by decide +kernel
theorem dLH_result_18 : decode bLH_result 18 = .ok (.getfield 39, 3) := by decide +kernel
theorem dLH_result_21 : decode bLH_result 21 = .ok (.iload_n 1, 1) := by decide +kernel
theorem dLH_result_22 : decode bLH_result 22 = .ok (.iaload, 1) := by decide +kernel
theorem dLH_result_23 : decode bLH_result 23 = .ok (.ireturn, 1) := by decide +kernel
end
section
theorem dLa_object_0 : decode bLa_object 0 = .ok (.aload_n 2, 1) := by decide +kernel
theorem dLa_object_1 : decode bLa_object 1 = .ok (.iconst 0, 1) := by decide +kernel
theorem dLa_object_2 : decode bLa_object 2 = .ok (.aload_n 0, 1) := by decide +kernel
theorem dLa_object_3 : decode bLa_object 3 = .ok (.iload_n 1, 1) := by decide +kernel
theorem dLa_object_4 : decode bLa_object 4 = .ok (.invokevirtual 7, 3) := by decide +kernel
theorem dLa_object_7 : decode bLa_object 7 = .ok (.i2l, 1) := by decide +kernel
theorem dLa_object_8 : decode bLa_object 8 = .ok (.lastore, 1) := by decide +kernel
theorem dLa_object_9 : decode bLa_object 9 = .ok (.goto 6, 3) := by decide +kernel
theorem dLa_object_12 : decode bLa_object 12 = .ok (.astore_n 3, 1) := by decide +kernel
theorem dLa_object_13 : decode bLa_object 13 = .ok (.iconst 1, 1) := by decide +kernel
theorem dLa_object_14 : decode bLa_object 14 = .ok (.ireturn, 1) := by decide +kernel
theorem dLa_object_15 : decode bLa_object 15 = .ok (.iconst 0, 1) := by decide +kernel
theorem dLa_object_16 : decode bLa_object 16 = .ok (.ireturn, 1) := by decide +kernel
theorem dLa_call_0 : decode bLa_call 0 = .ok (.aload 6, 2) := by decide +kernel
theorem dLa_call_2 : decode bLa_call 2 = .ok (.iconst 0, 1) := by decide +kernel
theorem dLa_call_3 : decode bLa_call 3 = .ok (.aload_n 0, 1) := by decide +kernel
theorem dLa_call_4 : decode bLa_call 4 = .ok (.iload_n 1, 1) := by decide +kernel
theorem dLa_call_5 : decode bLa_call 5 = .ok (.iload_n 2, 1) := by decide +kernel
theorem dLa_call_6 : decode bLa_call 6 = .ok (.iload_n 3, 1) := by decide +kernel
theorem dLa_call_7 : decode bLa_call 7 = .ok (.iload 4, 2) := by decide +kernel
theorem dLa_call_9 : decode bLa_call 9 = .ok (.iload 5, 2) := by decide +kernel
theorem dLa_call_11 : decode bLa_call 11 = .ok (.invokevirtual 15, 3) := by decide +kernel
theorem dLa_call_14 : decode bLa_call 14 = .ok (.i2l, 1) := by decide +kernel
theorem dLa_call_15 : decode bLa_call 15 = .ok (.lastore, 1) := by decide +kernel
theorem dLa_call_16 : decode bLa_call 16 = .ok (.goto 11, 3) := by decide +kernel
theorem dLa_call_19 : decode bLa_call 19 = .ok (.astore 7, 2) := by decide +kernel
theorem dLa_call_21 : decode bLa_call 21 = .ok (.iconst 1, 1) := by decide +kernel
theorem dLa_call_22 : decode bLa_call 22 = .ok (.ireturn, 1) := by decide +kernel
theorem dLa_call_23 : decode bLa_call 23 = .ok (.astore 7, 2) := by decide +kernel
theorem dLa_call_25 : decode bLa_call 25 = .ok (.iconst 2, 1) := by decide +kernel
theorem dLa_call_26 : decode bLa_call 26 = .ok (.ireturn, 1) := by decide +kernel
theorem dLa_call_27 : decode bLa_call 27 = .ok (.iconst 0, 1) := by decide +kernel
theorem dLa_call_28 : decode bLa_call 28 = .ok (.ireturn, 1) := by decide +kernel
theorem dLa_back_0 : decode bLa_back 0 = .ok (.aload_n 0, 1) := by decide +kernel
theorem dLa_back_1 : decode bLa_back 1 = .ok (.iload_n 1, 1) := by decide +kernel
theorem dLa_back_2 : decode bLa_back 2 = .ok (.iload_n 2, 1) := by decide +kernel
theorem dLa_back_3 : decode bLa_back 3 = .ok (.invokevirtual 21, 3) := by decide +kernel
theorem dLa_back_6 : decode bLa_back 6 = .ok (.goto 9, 3) := by decide +kernel
theorem dLa_back_9 : decode bLa_back 9 = .ok (.astore_n 3, 1) := by decide +kernel
theorem dLa_back_10 : decode bLa_back 10 = .ok (.iconst 1, 1) := by decide +kernel
theorem dLa_back_11 : decode bLa_back 11 = .ok (.ireturn, 1) := by decide +kernel
theorem dLa_back_12 : decode bLa_back 12 = .ok (.astore_n 3, 1) := by decide +kernel
theorem dLa_back_13 : decode bLa_back 13 = .ok (.iconst 2, 1) := by decide +kernel
theorem dLa_back_14 : decode bLa_back 14 = .ok (.ireturn, 1) := by decide +kernel
theorem dLa_back_15 : decode bLa_back 15 = .ok (.iconst 0, 1) := by decide +kernel
theorem dLa_back_16 : decode bLa_back 16 = .ok (.ireturn, 1) := by decide +kernel
theorem dLa_lose_0 : decode bLa_lose 0 = .ok (.aload_n 0, 1) := by decide +kernel
theorem dLa_lose_1 : decode bLa_lose 1 = .ok (.iload_n 1, 1) := by decide +kernel
theorem dLa_lose_2 : decode bLa_lose 2 = .ok (.invokevirtual 25, 3) := by decide +kernel
theorem dLa_lose_5 : decode bLa_lose 5 = .ok (.goto 9, 3) := by decide +kernel
theorem dLa_lose_8 : decode bLa_lose 8 = .ok (.astore_n 2, 1) := by decide +kernel
theorem dLa_lose_9 : decode bLa_lose 9 = .ok (.iconst 1, 1) := by decide +kernel
theorem dLa_lose_10 : decode bLa_lose 10 = .ok (.ireturn, 1) := by decide +kernel
theorem dLa_lose_11 : decode bLa_lose 11 = .ok (.astore_n 2, 1) := by decide +kernel
theorem dLa_lose_12 : decode bLa_lose 12 = .ok (.iconst 2, 1) := by decide +kernel
theorem dLa_lose_13 : decode bLa_lose 13 = .ok (.ireturn, 1) := by decide +kernel
theorem dLa_lose_14 : decode bLa_lose 14 = .ok (.iconst 0, 1) := by decide +kernel
theorem dLa_lose_15 : decode bLa_lose 15 = .ok (.ireturn, 1) := by decide +kernel
theorem dLa_possibilities_0 : decode bLa_possibilities 0 = .ok (.aload_n 2, 1) := by decide +kernel
theorem dLa_possibilities_1 : decode bLa_possibilities 1 = .ok (.iconst 0, 1) := by decide +kernel
theorem dLa_possibilities_2 : decode bLa_possibilities 2 = .ok (.aload_n 0, 1) := by decide +kernel
theorem dLa_possibilities_3 : decode bLa_possibilities 3 = .ok (.iload_n 1, 1) := by decide +kernel
theorem dLa_possibilities_4 : decode bLa_possibilities 4 = .ok (.invokevirtual 29, 3) := by decide +kernel
theorem dLa_possibilities_7 : decode bLa_possibilities 7 = .ok (.i2l, 1) := by decide +kernel
theorem dLa_possibilities_8 : decode bLa_possibilities 8 = .ok (.lastore, 1) := by decide +kernel
theorem dLa_possibilities_9 : decode bLa_possibilities 9 = .ok (.goto 6, 3) := by decide +kernel
theorem dLa_possibilities_12 : decode bLa_possibilities 12 = .ok (.astore_n 3, 1) := by decide +kernel
theorem dLa_possibilities_13 : decode bLa_possibilities 13 = .ok (.iconst 1, 1) := by decide +kernel
theorem dLa_possibilities_14 : decode bLa_possibilities 14 = .ok (.ireturn, 1) := by decide +kernel
theorem dLa_possibilities_15 : decode bLa_possibilities 15 = .ok (.iconst 0, 1) := by decide +kernel
theorem dLa_possibilities_16 : decode bLa_possibilities 16 = .ok (.ireturn, 1) := by decide +kernel
theorem dLa_judge_0 : decode bLa_judge 0 = .ok (.aload_n 2, 1) := by decide +kernel
theorem dLa_judge_1 : decode bLa_judge 1 = .ok (.iconst 0, 1) := by decide +kernel
theorem dLa_judge_2 : decode bLa_judge 2 = .ok (.aload_n 0, 1) := by decide +kernel
theorem dLa_judge_3 : decode bLa_judge 3 = .ok (.iload_n 1, 1) := by decide +kernel
theorem dLa_judge_4 : decode bLa_judge 4 = .ok (.invokevirtual 32, 3) := by decide +kernel
theorem dLa_judge_7 : decode bLa_judge 7 = .ok (.i2l, 1) := by decide +kernel
theorem dLa_judge_8 : decode bLa_judge 8 = .ok (.lastore, 1) := by decide +kernel
theorem dLa_judge_9 : decode bLa_judge 9 = .ok (.goto 6, 3) := by decide +kernel
theorem dLa_judge_12 : decode bLa_judge 12 = .ok (.astore_n 3, 1) := by decide +kernel
theorem dLa_judge_13 : decode bLa_judge 13 = .ok (.iconst 1, 1) := by decide +kernel
theorem dLa_judge_14 : decode bLa_judge 14 = .ok (.ireturn, 1) := by decide +kernel
theorem dLa_judge_15 : decode bLa_judge 15 = .ok (.iconst 0, 1) := by decide +kernel
theorem dLa_judge_16 : decode bLa_judge 16 = .ok (.ireturn, 1) := by decide +kernel
theorem dLa_judgeOwn_0 : decode bLa_judgeOwn 0 = .ok (.aload_n 2, 1) := by decide +kernel
theorem dLa_judgeOwn_1 : decode bLa_judgeOwn 1 = .ok (.iconst 0, 1) := by decide +kernel
theorem dLa_judgeOwn_2 : decode bLa_judgeOwn 2 = .ok (.aload_n 0, 1) := by decide +kernel
theorem dLa_judgeOwn_3 : decode bLa_judgeOwn 3 = .ok (.iload_n 1, 1) := by decide +kernel
theorem dLa_judgeOwn_4 : decode bLa_judgeOwn 4 = .ok (.invokevirtual 35, 3) := by decide +kernel
theorem dLa_judgeOwn_7 : decode bLa_judgeOwn 7 = .ok (.i2l, 1) := by decide +kernel
theorem dLa_judgeOwn_8 : decode bLa_judgeOwn 8 = .ok (.lastore, 1) := by decide +kernel
theorem dLa_judgeOwn_9 : decode bLa_judgeOwn 9 = .ok (.goto 6, 3) := by decide +kernel
theorem dLa_judgeOwn_12 : decode bLa_judgeOwn 12 = .ok (.astore_n 3, 1) := by decide +kernel
theorem dLa_judgeOwn_13 : decode bLa_judgeOwn 13 = .ok (.iconst 1, 1) := by decide +kernel
theorem dLa_judgeOwn_14 : decode bLa_judgeOwn 14 = .ok (.ireturn, 1) := by decide +kernel
theorem dLa_judgeOwn_15 : decode bLa_judgeOwn 15 = .ok (.iconst 0, 1) := by decide +kernel
theorem dLa_judgeOwn_16 : decode bLa_judgeOwn 16 = .ok (.ireturn, 1) := by decide +kernel
theorem dLa_ways_0 : decode bLa_ways 0 = .ok (.aload_n 2, 1) := by decide +kernel
theorem dLa_ways_1 : decode bLa_ways 1 = .ok (.iconst 0, 1) := by decide +kernel
theorem dLa_ways_2 : decode bLa_ways 2 = .ok (.aload_n 0, 1) := by decide +kernel
theorem dLa_ways_3 : decode bLa_ways 3 = .ok (.iload_n 1, 1) := by decide +kernel
theorem dLa_ways_4 : decode bLa_ways 4 = .ok (.invokevirtual 38, 3) := by decide +kernel
theorem dLa_ways_7 : decode bLa_ways 7 = .ok (.lastore, 1) := by decide +kernel
theorem dLa_ways_8 : decode bLa_ways 8 = .ok (.goto 6, 3) := by decide +kernel
theorem dLa_ways_11 : decode bLa_ways 11 = .ok (.astore_n 3, 1) := by decide +kernel
theorem dLa_ways_12 : decode bLa_ways 12 = .ok (.iconst 1, 1) := by decide +kernel
theorem dLa_ways_13 : decode bLa_ways 13 = .ok (.ireturn, 1) := by decide +kernel
theorem dLa_ways_14 : decode bLa_ways 14 = .ok (.iconst 0, 1) := by decide +kernel
theorem dLa_ways_15 : decode bLa_ways 15 = .ok (.ireturn, 1) := by decide +kernel
theorem dLa_lasts_0 : decode bLa_lasts 0 = .ok (.aload_n 2, 1) := by decide +kernel
theorem dLa_lasts_1 : decode bLa_lasts 1 = .ok (.iconst 0, 1) := by decide +kernel
theorem dLa_lasts_2 : decode bLa_lasts 2 = .ok (.aload_n 0, 1) := by decide +kernel
theorem dLa_lasts_3 : decode bLa_lasts 3 = .ok (.iload_n 1, 1) := by decide +kernel
theorem dLa_lasts_4 : decode bLa_lasts 4 = .ok (.invokevirtual 42, 3) := by decide +kernel
theorem dLa_lasts_7 : decode bLa_lasts 7 = .ok (.i2l, 1) := by decide +kernel
theorem dLa_lasts_8 : decode bLa_lasts 8 = .ok (.lastore, 1) := by decide +kernel
theorem dLa_lasts_9 : decode bLa_lasts 9 = .ok (.goto 6, 3) := by decide +kernel
theorem dLa_lasts_12 : decode bLa_lasts 12 = .ok (.astore_n 3, 1) := by decide +kernel
theorem dLa_lasts_13 : decode bLa_lasts 13 = .ok (.iconst 1, 1) := by decide +kernel
theorem dLa_lasts_14 : decode bLa_lasts 14 = .ok (.ireturn, 1) := by decide +kernel
theorem dLa_lasts_15 : decode bLa_lasts 15 = .ok (.iconst 0, 1) := by decide +kernel
theorem dLa_lasts_16 : decode bLa_lasts 16 = .ok (.ireturn, 1) := by decide +kernel
theorem dLa_broken_0 : decode bLa_broken 0 = .ok (.aload_n 2, 1) := by decide +kernel
theorem dLa_broken_1 : decode bLa_broken 1 = .ok (.iconst 0, 1) := by decide +kernel
theorem dLa_broken_2 : decode bLa_broken 2 = .ok (.aload_n 0, 1) := by decide +kernel
theorem dLa_broken_3 : decode bLa_broken 3 = .ok (.iload_n 1, 1) := by decide +kernel
theorem dLa_broken_4 : decode bLa_broken 4 = .ok (.invokevirtual 45, 3) := by decide +kernel
theorem dLa_broken_7 : decode bLa_broken 7 = .ok (.i2l, 1) := by decide +kernel
theorem dLa_broken_8 : decode bLa_broken 8 = .ok (.lastore, 1) := by decide +kernel
theorem dLa_broken_9 : decode bLa_broken 9 = .ok (.goto 6, 3) := by decide +kernel
theorem dLa_broken_12 : decode bLa_broken 12 = .ok (.astore_n 3, 1) := by decide +kernel
theorem dLa_broken_13 : decode bLa_broken 13 = .ok (.iconst 1, 1) := by decide +kernel
theorem dLa_broken_14 : decode bLa_broken 14 = .ok (.ireturn, 1) := by decide +kernel
theorem dLa_broken_15 : decode bLa_broken 15 = .ok (.iconst 0, 1) := by decide +kernel
theorem dLa_broken_16 : decode bLa_broken 16 = .ok (.ireturn, 1) := by decide +kernel
theorem dLa_length_0 : decode bLa_length 0 = .ok (.aload_n 1, 1) := by decide +kernel
theorem dLa_length_1 : decode bLa_length 1 = .ok (.iconst 0, 1) := by decide +kernel
theorem dLa_length_2 : decode bLa_length 2 = .ok (.aload_n 0, 1) := by decide +kernel
theorem dLa_length_3 : decode bLa_length 3 = .ok (.invokevirtual 48, 3) := by decide +kernel
theorem dLa_length_6 : decode bLa_length 6 = .ok (.i2l, 1) := by decide +kernel
theorem dLa_length_7 : decode bLa_length 7 = .ok (.lastore, 1) := by decide +kernel
theorem dLa_length_8 : decode bLa_length 8 = .ok (.goto 6, 3) := by decide +kernel
theorem dLa_length_11 : decode bLa_length 11 = .ok (.astore_n 2, 1) := by decide +kernel
theorem dLa_length_12 : decode bLa_length 12 = .ok (.iconst 1, 1) := by decide +kernel
theorem dLa_length_13 : decode bLa_length 13 = .ok (.ireturn, 1) := by decide +kernel
theorem dLa_length_14 : decode bLa_length 14 = .ok (.iconst 0, 1) := by decide +kernel
theorem dLa_length_15 : decode bLa_length 15 = .ok (.ireturn, 1) := by decide +kernel
theorem dLa_row_0 : decode bLa_row 0 = .ok (.aload_n 2, 1) := by decide +kernel
theorem dLa_row_1 : decode bLa_row 1 = .ok (.iconst 0, 1) := by decide +kernel
theorem dLa_row_2 : decode bLa_row 2 = .ok (.aload_n 0, 1) := by decide +kernel
theorem dLa_row_3 : decode bLa_row 3 = .ok (.iload_n 1, 1) := by decide +kernel
theorem dLa_row_4 : decode bLa_row 4 = .ok (.invokevirtual 52, 3) := by decide +kernel
theorem dLa_row_7 : decode bLa_row 7 = .ok (.i2l, 1) := by decide +kernel
theorem dLa_row_8 : decode bLa_row 8 = .ok (.lastore, 1) := by decide +kernel
theorem dLa_row_9 : decode bLa_row 9 = .ok (.goto 9, 3) := by decide +kernel
theorem dLa_row_12 : decode bLa_row 12 = .ok (.astore_n 3, 1) := by decide +kernel
theorem dLa_row_13 : decode bLa_row 13 = .ok (.iconst 1, 1) := by decide +kernel
theorem dLa_row_14 : decode bLa_row 14 = .ok (.ireturn, 1) := by decide +kernel
theorem dLa_row_15 : decode bLa_row 15 = .ok (.astore_n 3, 1) := by decide +kernel
theorem dLa_row_16 : decode bLa_row 16 = .ok (.iconst 2, 1) := by decide +kernel
theorem dLa_row_17 : decode bLa_row 17 = .ok (.ireturn, 1) := by decide +kernel
theorem dLa_row_18 : decode bLa_row 18 = .ok (.iconst 0, 1) := by decide +kernel
theorem dLa_row_19 : decode bLa_row 19 = .ok (.ireturn, 1) := by decide +kernel
theorem dLa_result_0 : decode bLa_result 0 = .ok (.aload_n 2, 1) := by decide +kernel
theorem dLa_result_1 : decode bLa_result 1 = .ok (.iconst 0, 1) := by decide +kernel
theorem dLa_result_2 : decode bLa_result 2 = .ok (.aload_n 0, 1) := by decide +kernel
theorem dLa_result_3 : decode bLa_result 3 = .ok (.iload_n 1, 1) := by decide +kernel
theorem dLa_result_4 : decode bLa_result 4 = .ok (.invokevirtual 57, 3) := by decide +kernel
theorem dLa_result_7 : decode bLa_result 7 = .ok (.i2l, 1) := by decide +kernel
theorem dLa_result_8 : decode bLa_result 8 = .ok (.lastore, 1) := by decide +kernel
theorem dLa_result_9 : decode bLa_result 9 = .ok (.goto 9, 3) := by decide +kernel
theorem dLa_result_12 : decode bLa_result 12 = .ok (.astore_n 3, 1) := by decide +kernel
theorem dLa_result_13 : decode bLa_result 13 = .ok (.iconst 1, 1) := by decide +kernel
theorem dLa_result_14 : decode bLa_result 14 = .ok (.ireturn, 1) := by decide +kernel
theorem dLa_result_15 : decode bLa_result 15 = .ok (.astore_n 3, 1) := by decide +kernel
theorem dLa_result_16 : decode bLa_result 16 = .ok (.iconst 2, 1) := by decide +kernel
theorem dLa_result_17 : decode bLa_result 17 = .ok (.ireturn, 1) := by decide +kernel
theorem dLa_result_18 : decode bLa_result 18 = .ok (.iconst 0, 1) := by decide +kernel
theorem dLa_result_19 : decode bLa_result 19 = .ok (.ireturn, 1) := by decide +kernel
end
section
theorem dLa_law_0 : decode bLa_law 0 = .ok (.new 8, 3) := by decide +kernel
theorem dLa_law_3 : decode bLa_law 3 = .ok (.dup, 1) := by decide +kernel
theorem dLa_law_4 : decode bLa_law 4 = .ok (.invokespecial 60, 3) := by decide +kernel
theorem dLa_law_7 : decode bLa_law 7 = .ok (.astore_n 1, 1) := by decide +kernel
theorem dLa_law_8 : decode bLa_law 8 = .ok (.new 61, 3) := by decide +kernel
theorem dLa_law_11 : decode bLa_law 11 = .ok (.dup, 1) := by decide +kernel
theorem dLa_law_12 : decode bLa_law 12 = .ok (.invokespecial 63, 3) := by decide +kernel
theorem dLa_law_15 : decode bLa_law 15 = .ok (.astore_n 2, 1) := by decide +kernel
theorem dLa_law_16 : decode bLa_law 16 = .ok (.iconst 1, 1) := by decide +kernel
theorem dLa_law_17 : decode bLa_law 17 = .ok (.newarray .long, 2) := by decide +kernel
theorem dLa_law_19 : decode bLa_law 19 = .ok (.astore_n 3, 1) := by decide +kernel
theorem dLa_law_20 : decode bLa_law 20 = .ok (.iconst 0, 1) := by decide +kernel
theorem dLa_law_21 : decode bLa_law 21 = .ok (.istore 4, 2) := by decide +kernel
theorem dLa_law_23 : decode bLa_law 23 = .ok (.iload 4, 2) := by decide +kernel
theorem dLa_law_25 : decode bLa_law 25 = .ok (.aload_n 0, 1) := by decide +kernel
theorem dLa_law_26 : decode bLa_law 26 = .ok (.arraylength, 1) := by decide +kernel
theorem dLa_law_27 : decode bLa_law 27 = .ok (.bipush 6, 2) := by decide +kernel
theorem dLa_law_29 : decode bLa_law 29 = .ok (.isub, 1) := by decide +kernel
theorem dLa_law_30 : decode bLa_law 30 = .ok (.if_icmp .gt 870, 3) := by decide +kernel
theorem dLa_law_33 : decode bLa_law 33 = .ok (.aload_n 0, 1) := by decide +kernel
theorem dLa_law_34 : decode bLa_law 34 = .ok (.iload 4, 2) := by decide +kernel
theorem dLa_law_36 : decode bLa_law 36 = .ok (.iaload, 1) := by decide +kernel
theorem dLa_law_37 : decode bLa_law 37 = .ok (.bipush 15, 2) := by decide +kernel
theorem dLa_law_39 : decode bLa_law 39 = .ok (.iand, 1) := by decide +kernel
theorem dLa_law_40 : decode bLa_law 40 = .ok (.tableswitch 854 0 15 #[80, 136, 240, 288, 324, 337, 350, 406, 462, 518, 573, 629, 685, 698, 742, 798], 80) := by decide +kernel
theorem dLa_law_120 : decode bLa_law 120 = .ok (.aload_n 1, 1) := by decide +kernel
theorem dLa_law_121 : decode bLa_law 121 = .ok (.aload_n 0, 1) := by decide +kernel
theorem dLa_law_122 : decode bLa_law 122 = .ok (.iload 4, 2) := by decide +kernel
theorem dLa_law_124 : decode bLa_law 124 = .ok (.iconst 1, 1) := by decide +kernel
theorem dLa_law_125 : decode bLa_law 125 = .ok (.iadd, 1) := by decide +kernel
theorem dLa_law_126 : decode bLa_law 126 = .ok (.iaload, 1) := by decide +kernel
theorem dLa_law_127 : decode bLa_law 127 = .ok (.aload_n 3, 1) := by decide +kernel
theorem dLa_law_128 : decode bLa_law 128 = .ok (.invokestatic 64, 3) := by decide +kernel
theorem dLa_law_131 : decode bLa_law 131 = .ok (.istore 5, 2) := by decide +kernel
theorem dLa_law_133 : decode bLa_law 133 = .ok (.aload_n 2, 1) := by decide +kernel
theorem dLa_law_134 : decode bLa_law 134 = .ok (.aload_n 0, 1) := by decide +kernel
theorem dLa_law_135 : decode bLa_law 135 = .ok (.iload 4, 2) := by decide +kernel
theorem dLa_law_137 : decode bLa_law 137 = .ok (.iconst 1, 1) := by decide +kernel
theorem dLa_law_138 : decode bLa_law 138 = .ok (.iadd, 1) := by decide +kernel
theorem dLa_law_139 : decode bLa_law 139 = .ok (.iaload, 1) := by decide +kernel
theorem dLa_law_140 : decode bLa_law 140 = .ok (.invokevirtual 69, 3) := by decide +kernel
theorem dLa_law_143 : decode bLa_law 143 = .ok (.istore 6, 2) := by decide +kernel
theorem dLa_law_145 : decode bLa_law 145 = .ok (.aload_n 2, 1) := by decide +kernel
theorem dLa_law_146 : decode bLa_law 146 = .ok (.invokevirtual 70, 3) := by decide +kernel
theorem dLa_law_149 : decode bLa_law 149 = .ok (.iload 5, 2) := by decide +kernel
theorem dLa_law_151 : decode bLa_law 151 = .ok (.if_icmp .eq 5, 3) := by decide +kernel
theorem dLa_law_154 : decode bLa_law 154 = .ok (.iconst 0, 1) := by decide +kernel
theorem dLa_law_155 : decode bLa_law 155 = .ok (.ireturn, 1) := by decide +kernel
theorem dLa_law_156 : decode bLa_law 156 = .ok (.iload 5, 2) := by decide +kernel
theorem dLa_law_158 : decode bLa_law 158 = .ok (.ifCond .ne 15, 3) := by decide +kernel
theorem dLa_law_161 : decode bLa_law 161 = .ok (.aload_n 3, 1) := by decide +kernel
theorem dLa_law_162 : decode bLa_law 162 = .ok (.iconst 0, 1) := by decide +kernel
theorem dLa_law_163 : decode bLa_law 163 = .ok (.laload, 1) := by decide +kernel
theorem dLa_law_164 : decode bLa_law 164 = .ok (.iload 6, 2) := by decide +kernel
theorem dLa_law_166 : decode bLa_law 166 = .ok (.i2l, 1) := by decide +kernel
theorem dLa_law_167 : decode bLa_law 167 = .ok (.lcmp, 1) := by decide +kernel
theorem dLa_law_168 : decode bLa_law 168 = .ok (.ifCond .eq 5, 3) := by decide +kernel
theorem dLa_law_171 : decode bLa_law 171 = .ok (.iconst 0, 1) := by decide +kernel
theorem dLa_law_172 : decode bLa_law 172 = .ok (.ireturn, 1) := by decide +kernel
theorem dLa_law_173 : decode bLa_law 173 = .ok (.goto 721, 3) := by decide +kernel
theorem dLa_law_176 : decode bLa_law 176 = .ok (.aload_n 1, 1) := by decide +kernel
theorem dLa_law_177 : decode bLa_law 177 = .ok (.aload_n 0, 1) := by decide +kernel
theorem dLa_law_178 : decode bLa_law 178 = .ok (.iload 4, 2) := by decide +kernel
theorem dLa_law_180 : decode bLa_law 180 = .ok (.iconst 1, 1) := by decide +kernel
theorem dLa_law_181 : decode bLa_law 181 = .ok (.iadd, 1) := by decide +kernel
theorem dLa_law_182 : decode bLa_law 182 = .ok (.iaload, 1) := by decide +kernel
theorem dLa_law_183 : decode bLa_law 183 = .ok (.aload_n 0, 1) := by decide +kernel
theorem dLa_law_184 : decode bLa_law 184 = .ok (.iload 4, 2) := by decide +kernel
theorem dLa_law_186 : decode bLa_law 186 = .ok (.iconst 2, 1) := by decide +kernel
theorem dLa_law_187 : decode bLa_law 187 = .ok (.iadd, 1) := by decide +kernel
theorem dLa_law_188 : decode bLa_law 188 = .ok (.iaload, 1) := by decide +kernel
theorem dLa_law_189 : decode bLa_law 189 = .ok (.aload_n 0, 1) := by decide +kernel
theorem dLa_law_190 : decode bLa_law 190 = .ok (.iload 4, 2) := by decide +kernel
theorem dLa_law_192 : decode bLa_law 192 = .ok (.iconst 3, 1) := by decide +kernel
theorem dLa_law_193 : decode bLa_law 193 = .ok (.iadd, 1) := by decide +kernel
theorem dLa_law_194 : decode bLa_law 194 = .ok (.iaload, 1) := by decide +kernel
theorem dLa_law_195 : decode bLa_law 195 = .ok (.aload_n 0, 1) := by decide +kernel
theorem dLa_law_196 : decode bLa_law 196 = .ok (.iload 4, 2) := by decide +kernel
theorem dLa_law_198 : decode bLa_law 198 = .ok (.iconst 4, 1) := by decide +kernel
theorem dLa_law_199 : decode bLa_law 199 = .ok (.iadd, 1) := by decide +kernel
theorem dLa_law_200 : decode bLa_law 200 = .ok (.iaload, 1) := by decide +kernel
theorem dLa_law_201 : decode bLa_law 201 = .ok (.aload_n 0, 1) := by decide +kernel
theorem dLa_law_202 : decode bLa_law 202 = .ok (.iload 4, 2) := by decide +kernel
theorem dLa_law_204 : decode bLa_law 204 = .ok (.iconst 5, 1) := by decide +kernel
theorem dLa_law_205 : decode bLa_law 205 = .ok (.iadd, 1) := by decide +kernel
theorem dLa_law_206 : decode bLa_law 206 = .ok (.iaload, 1) := by decide +kernel
theorem dLa_law_207 : decode bLa_law 207 = .ok (.aload_n 3, 1) := by decide +kernel
theorem dLa_law_208 : decode bLa_law 208 = .ok (.invokestatic 73, 3) := by decide +kernel
theorem dLa_law_211 : decode bLa_law 211 = .ok (.istore 5, 2) := by decide +kernel
theorem dLa_law_213 : decode bLa_law 213 = .ok (.aload_n 2, 1) := by decide +kernel
theorem dLa_law_214 : decode bLa_law 214 = .ok (.aload_n 0, 1) := by decide +kernel
theorem dLa_law_215 : decode bLa_law 215 = .ok (.iload 4, 2) := by decide +kernel
theorem dLa_law_217 : decode bLa_law 217 = .ok (.iconst 1, 1) := by decide +kernel
theorem dLa_law_218 : decode bLa_law 218 = .ok (.iadd, 1) := by decide +kernel
theorem dLa_law_219 : decode bLa_law 219 = .ok (.iaload, 1) := by decide +kernel
theorem dLa_law_220 : decode bLa_law 220 = .ok (.aload_n 0, 1) := by decide +kernel
theorem dLa_law_221 : decode bLa_law 221 = .ok (.iload 4, 2) := by decide +kernel
theorem dLa_law_223 : decode bLa_law 223 = .ok (.iconst 2, 1) := by decide +kernel
theorem dLa_law_224 : decode bLa_law 224 = .ok (.iadd, 1) := by decide +kernel
theorem dLa_law_225 : decode bLa_law 225 = .ok (.iaload, 1) := by decide +kernel
theorem dLa_law_226 : decode bLa_law 226 = .ok (.aload_n 0, 1) := by decide +kernel
theorem dLa_law_227 : decode bLa_law 227 = .ok (.iload 4, 2) := by decide +kernel
theorem dLa_law_229 : decode bLa_law 229 = .ok (.iconst 3, 1) := by decide +kernel
theorem dLa_law_230 : decode bLa_law 230 = .ok (.iadd, 1) := by decide +kernel
theorem dLa_law_231 : decode bLa_law 231 = .ok (.iaload, 1) := by decide +kernel
theorem dLa_law_232 : decode bLa_law 232 = .ok (.aload_n 0, 1) := by decide +kernel
theorem dLa_law_233 : decode bLa_law 233 = .ok (.iload 4, 2) := by decide +kernel
theorem dLa_law_235 : decode bLa_law 235 = .ok (.iconst 4, 1) := by decide +kernel
theorem dLa_law_236 : decode bLa_law 236 = .ok (.iadd, 1) := by decide +kernel
theorem dLa_law_237 : decode bLa_law 237 = .ok (.iaload, 1) := by decide +kernel
theorem dLa_law_238 : decode bLa_law 238 = .ok (.aload_n 0, 1) := by decide +kernel
theorem dLa_law_239 : decode bLa_law 239 = .ok (.iload 4, 2) := by decide +kernel
theorem dLa_law_241 : decode bLa_law 241 = .ok (.iconst 5, 1) := by decide +kernel
theorem dLa_law_242 : decode bLa_law 242 = .ok (.iadd, 1) := by decide +kernel
theorem dLa_law_243 : decode bLa_law 243 = .ok (.iaload, 1) := by decide +kernel
theorem dLa_law_244 : decode bLa_law 244 = .ok (.invokevirtual 76, 3) := by decide +kernel
theorem dLa_law_247 : decode bLa_law 247 = .ok (.istore 6, 2) := by decide +kernel
theorem dLa_law_249 : decode bLa_law 249 = .ok (.aload_n 2, 1) := by decide +kernel
theorem dLa_law_250 : decode bLa_law 250 = .ok (.invokevirtual 70, 3) := by decide +kernel
theorem dLa_law_253 : decode bLa_law 253 = .ok (.iload 5, 2) := by decide +kernel
theorem dLa_law_255 : decode bLa_law 255 = .ok (.if_icmp .eq 5, 3) := by decide +kernel
theorem dLa_law_258 : decode bLa_law 258 = .ok (.iconst 0, 1) := by decide +kernel
theorem dLa_law_259 : decode bLa_law 259 = .ok (.ireturn, 1) := by decide +kernel
theorem dLa_law_260 : decode bLa_law 260 = .ok (.iload 5, 2) := by decide +kernel
theorem dLa_law_262 : decode bLa_law 262 = .ok (.ifCond .ne 15, 3) := by decide +kernel
theorem dLa_law_265 : decode bLa_law 265 = .ok (.aload_n 3, 1) := by decide +kernel
theorem dLa_law_266 : decode bLa_law 266 = .ok (.iconst 0, 1) := by decide +kernel
theorem dLa_law_267 : decode bLa_law 267 = .ok (.laload, 1) := by decide +kernel
theorem dLa_law_268 : decode bLa_law 268 = .ok (.iload 6, 2) := by decide +kernel
theorem dLa_law_270 : decode bLa_law 270 = .ok (.i2l, 1) := by decide +kernel
theorem dLa_law_271 : decode bLa_law 271 = .ok (.lcmp, 1) := by decide +kernel
theorem dLa_law_272 : decode bLa_law 272 = .ok (.ifCond .eq 5, 3) := by decide +kernel
theorem dLa_law_275 : decode bLa_law 275 = .ok (.iconst 0, 1) := by decide +kernel
theorem dLa_law_276 : decode bLa_law 276 = .ok (.ireturn, 1) := by decide +kernel
theorem dLa_law_277 : decode bLa_law 277 = .ok (.goto 617, 3) := by decide +kernel
theorem dLa_law_280 : decode bLa_law 280 = .ok (.aload_n 1, 1) := by decide +kernel
theorem dLa_law_281 : decode bLa_law 281 = .ok (.aload_n 0, 1) := by decide +kernel
theorem dLa_law_282 : decode bLa_law 282 = .ok (.iload 4, 2) := by decide +kernel
theorem dLa_law_284 : decode bLa_law 284 = .ok (.iconst 1, 1) := by decide +kernel
theorem dLa_law_285 : decode bLa_law 285 = .ok (.iadd, 1) := by decide +kernel
theorem dLa_law_286 : decode bLa_law 286 = .ok (.iaload, 1) := by decide +kernel
theorem dLa_law_287 : decode bLa_law 287 = .ok (.aload_n 0, 1) := by decide +kernel
theorem dLa_law_288 : decode bLa_law 288 = .ok (.iload 4, 2) := by decide +kernel
theorem dLa_law_290 : decode bLa_law 290 = .ok (.iconst 2, 1) := by decide +kernel
theorem dLa_law_291 : decode bLa_law 291 = .ok (.iadd, 1) := by decide +kernel
theorem dLa_law_292 : decode bLa_law 292 = .ok (.iaload, 1) := by decide +kernel
theorem dLa_law_293 : decode bLa_law 293 = .ok (.invokestatic 77, 3) := by decide +kernel
theorem dLa_law_296 : decode bLa_law 296 = .ok (.istore 5, 2) := by decide +kernel
theorem dLa_law_298 : decode bLa_law 298 = .ok (.aload_n 2, 1) := by decide +kernel
theorem dLa_law_299 : decode bLa_law 299 = .ok (.aload_n 0, 1) := by decide +kernel
theorem dLa_law_300 : decode bLa_law 300 = .ok (.iload 4, 2) := by decide +kernel
theorem dLa_law_302 : decode bLa_law 302 = .ok (.iconst 1, 1) := by decide +kernel
theorem dLa_law_303 : decode bLa_law 303 = .ok (.iadd, 1) := by decide +kernel
theorem dLa_law_304 : decode bLa_law 304 = .ok (.iaload, 1) := by decide +kernel
theorem dLa_law_305 : decode bLa_law 305 = .ok (.aload_n 0, 1) := by decide +kernel
theorem dLa_law_306 : decode bLa_law 306 = .ok (.iload 4, 2) := by decide +kernel
theorem dLa_law_308 : decode bLa_law 308 = .ok (.iconst 2, 1) := by decide +kernel
theorem dLa_law_309 : decode bLa_law 309 = .ok (.iadd, 1) := by decide +kernel
theorem dLa_law_310 : decode bLa_law 310 = .ok (.iaload, 1) := by decide +kernel
theorem dLa_law_311 : decode bLa_law 311 = .ok (.invokevirtual 80, 3) := by decide +kernel
theorem dLa_law_314 : decode bLa_law 314 = .ok (.aload_n 2, 1) := by decide +kernel
theorem dLa_law_315 : decode bLa_law 315 = .ok (.invokevirtual 70, 3) := by decide +kernel
theorem dLa_law_318 : decode bLa_law 318 = .ok (.iload 5, 2) := by decide +kernel
theorem dLa_law_320 : decode bLa_law 320 = .ok (.if_icmp .eq 5, 3) := by decide +kernel
theorem dLa_law_323 : decode bLa_law 323 = .ok (.iconst 0, 1) := by decide +kernel
theorem dLa_law_324 : decode bLa_law 324 = .ok (.ireturn, 1) := by decide +kernel
theorem dLa_law_325 : decode bLa_law 325 = .ok (.goto 569, 3) := by decide +kernel
theorem dLa_law_328 : decode bLa_law 328 = .ok (.aload_n 1, 1) := by decide +kernel
theorem dLa_law_329 : decode bLa_law 329 = .ok (.aload_n 0, 1) := by decide +kernel
theorem dLa_law_330 : decode bLa_law 330 = .ok (.iload 4, 2) := by decide +kernel
theorem dLa_law_332 : decode bLa_law 332 = .ok (.iconst 1, 1) := by decide +kernel
theorem dLa_law_333 : decode bLa_law 333 = .ok (.iadd, 1) := by decide +kernel
theorem dLa_law_334 : decode bLa_law 334 = .ok (.iaload, 1) := by decide +kernel
theorem dLa_law_335 : decode bLa_law 335 = .ok (.invokestatic 81, 3) := by decide +kernel
theorem dLa_law_338 : decode bLa_law 338 = .ok (.istore 5, 2) := by decide +kernel
theorem dLa_law_340 : decode bLa_law 340 = .ok (.aload_n 2, 1) := by decide +kernel
theorem dLa_law_341 : decode bLa_law 341 = .ok (.aload_n 0, 1) := by decide +kernel
theorem dLa_law_342 : decode bLa_law 342 = .ok (.iload 4, 2) := by decide +kernel
theorem dLa_law_344 : decode bLa_law 344 = .ok (.iconst 1, 1) := by decide +kernel
theorem dLa_law_345 : decode bLa_law 345 = .ok (.iadd, 1) := by decide +kernel
theorem dLa_law_346 : decode bLa_law 346 = .ok (.iaload, 1) := by decide +kernel
theorem dLa_law_347 : decode bLa_law 347 = .ok (.invokevirtual 84, 3) := by decide +kernel
theorem dLa_law_350 : decode bLa_law 350 = .ok (.aload_n 2, 1) := by decide +kernel
theorem dLa_law_351 : decode bLa_law 351 = .ok (.invokevirtual 70, 3) := by decide +kernel
theorem dLa_law_354 : decode bLa_law 354 = .ok (.iload 5, 2) := by decide +kernel
theorem dLa_law_356 : decode bLa_law 356 = .ok (.if_icmp .eq 5, 3) := by decide +kernel
theorem dLa_law_359 : decode bLa_law 359 = .ok (.iconst 0, 1) := by decide +kernel
theorem dLa_law_360 : decode bLa_law 360 = .ok (.ireturn, 1) := by decide +kernel
theorem dLa_law_361 : decode bLa_law 361 = .ok (.goto 533, 3) := by decide +kernel
theorem dLa_law_364 : decode bLa_law 364 = .ok (.aload_n 1, 1) := by decide +kernel
theorem dLa_law_365 : decode bLa_law 365 = .ok (.invokevirtual 85, 3) := by decide +kernel
theorem dLa_law_368 : decode bLa_law 368 = .ok (.aload_n 2, 1) := by decide +kernel
theorem dLa_law_369 : decode bLa_law 369 = .ok (.invokevirtual 88, 3) := by decide +kernel
theorem dLa_law_372 : decode bLa_law 372 = .ok (.if_icmp .eq 522, 3) := by decide +kernel
theorem dLa_law_375 : decode bLa_law 375 = .ok (.iconst 0, 1) := by decide +kernel
theorem dLa_law_376 : decode bLa_law 376 = .ok (.ireturn, 1) := by decide +kernel
theorem dLa_law_377 : decode bLa_law 377 = .ok (.aload_n 1, 1) := by decide +kernel
theorem dLa_law_378 : decode bLa_law 378 = .ok (.invokevirtual 89, 3) := by decide +kernel
theorem dLa_law_381 : decode bLa_law 381 = .ok (.aload_n 2, 1) := by decide +kernel
theorem dLa_law_382 : decode bLa_law 382 = .ok (.invokevirtual 92, 3) := by decide +kernel
theorem dLa_law_385 : decode bLa_law 385 = .ok (.if_icmp .eq 509, 3) := by decide +kernel
theorem dLa_law_388 : decode bLa_law 388 = .ok (.iconst 0, 1) := by decide +kernel
theorem dLa_law_389 : decode bLa_law 389 = .ok (.ireturn, 1) := by decide +kernel
theorem dLa_law_390 : decode bLa_law 390 = .ok (.aload_n 1, 1) := by decide +kernel
theorem dLa_law_391 : decode bLa_law 391 = .ok (.aload_n 0, 1) := by decide +kernel
theorem dLa_law_392 : decode bLa_law 392 = .ok (.iload 4, 2) := by decide +kernel
theorem dLa_law_394 : decode bLa_law 394 = .ok (.iconst 1, 1) := by decide +kernel
theorem dLa_law_395 : decode bLa_law 395 = .ok (.iadd, 1) := by decide +kernel
theorem dLa_law_396 : decode bLa_law 396 = .ok (.iaload, 1) := by decide +kernel
theorem dLa_law_397 : decode bLa_law 397 = .ok (.aload_n 3, 1) := by decide +kernel
theorem dLa_law_398 : decode bLa_law 398 = .ok (.invokestatic 93, 3) := by decide +kernel
theorem dLa_law_401 : decode bLa_law 401 = .ok (.istore 5, 2) := by decide +kernel
theorem dLa_law_403 : decode bLa_law 403 = .ok (.aload_n 2, 1) := by decide +kernel
theorem dLa_law_404 : decode bLa_law 404 = .ok (.aload_n 0, 1) := by decide +kernel
theorem dLa_law_405 : decode bLa_law 405 = .ok (.iload 4, 2) := by decide +kernel
theorem dLa_law_407 : decode bLa_law 407 = .ok (.iconst 1, 1) := by decide +kernel
theorem dLa_law_408 : decode bLa_law 408 = .ok (.iadd, 1) := by decide +kernel
theorem dLa_law_409 : decode bLa_law 409 = .ok (.iaload, 1) := by decide +kernel
theorem dLa_law_410 : decode bLa_law 410 = .ok (.invokevirtual 95, 3) := by decide +kernel
theorem dLa_law_413 : decode bLa_law 413 = .ok (.istore 6, 2) := by decide +kernel
theorem dLa_law_415 : decode bLa_law 415 = .ok (.aload_n 2, 1) := by decide +kernel
theorem dLa_law_416 : decode bLa_law 416 = .ok (.invokevirtual 70, 3) := by decide +kernel
theorem dLa_law_419 : decode bLa_law 419 = .ok (.iload 5, 2) := by decide +kernel
theorem dLa_law_421 : decode bLa_law 421 = .ok (.if_icmp .eq 5, 3) := by decide +kernel
theorem dLa_law_424 : decode bLa_law 424 = .ok (.iconst 0, 1) := by decide +kernel
theorem dLa_law_425 : decode bLa_law 425 = .ok (.ireturn, 1) := by decide +kernel
theorem dLa_law_426 : decode bLa_law 426 = .ok (.iload 5, 2) := by decide +kernel
theorem dLa_law_428 : decode bLa_law 428 = .ok (.ifCond .ne 15, 3) := by decide +kernel
theorem dLa_law_431 : decode bLa_law 431 = .ok (.aload_n 3, 1) := by decide +kernel
theorem dLa_law_432 : decode bLa_law 432 = .ok (.iconst 0, 1) := by decide +kernel
theorem dLa_law_433 : decode bLa_law 433 = .ok (.laload, 1) := by decide +kernel
theorem dLa_law_434 : decode bLa_law 434 = .ok (.iload 6, 2) := by decide +kernel
theorem dLa_law_436 : decode bLa_law 436 = .ok (.i2l, 1) := by decide +kernel
theorem dLa_law_437 : decode bLa_law 437 = .ok (.lcmp, 1) := by decide +kernel
theorem dLa_law_438 : decode bLa_law 438 = .ok (.ifCond .eq 5, 3) := by decide +kernel
theorem dLa_law_441 : decode bLa_law 441 = .ok (.iconst 0, 1) := by decide +kernel
theorem dLa_law_442 : decode bLa_law 442 = .ok (.ireturn, 1) := by decide +kernel
theorem dLa_law_443 : decode bLa_law 443 = .ok (.goto 451, 3) := by decide +kernel
theorem dLa_law_446 : decode bLa_law 446 = .ok (.aload_n 1, 1) := by decide +kernel
theorem dLa_law_447 : decode bLa_law 447 = .ok (.aload_n 0, 1) := by decide +kernel
theorem dLa_law_448 : decode bLa_law 448 = .ok (.iload 4, 2) := by decide +kernel
theorem dLa_law_450 : decode bLa_law 450 = .ok (.iconst 1, 1) := by decide +kernel
theorem dLa_law_451 : decode bLa_law 451 = .ok (.iadd, 1) := by decide +kernel
theorem dLa_law_452 : decode bLa_law 452 = .ok (.iaload, 1) := by decide +kernel
theorem dLa_law_453 : decode bLa_law 453 = .ok (.aload_n 3, 1) := by decide +kernel
theorem dLa_law_454 : decode bLa_law 454 = .ok (.invokestatic 96, 3) := by decide +kernel
theorem dLa_law_457 : decode bLa_law 457 = .ok (.istore 5, 2) := by decide +kernel
theorem dLa_law_459 : decode bLa_law 459 = .ok (.aload_n 2, 1) := by decide +kernel
theorem dLa_law_460 : decode bLa_law 460 = .ok (.aload_n 0, 1) := by decide +kernel
theorem dLa_law_461 : decode bLa_law 461 = .ok (.iload 4, 2) := by decide +kernel
theorem dLa_law_463 : decode bLa_law 463 = .ok (.iconst 1, 1) := by decide +kernel
theorem dLa_law_464 : decode bLa_law 464 = .ok (.iadd, 1) := by decide +kernel
theorem dLa_law_465 : decode bLa_law 465 = .ok (.iaload, 1) := by decide +kernel
theorem dLa_law_466 : decode bLa_law 466 = .ok (.invokevirtual 98, 3) := by decide +kernel
theorem dLa_law_469 : decode bLa_law 469 = .ok (.istore 6, 2) := by decide +kernel
theorem dLa_law_471 : decode bLa_law 471 = .ok (.aload_n 2, 1) := by decide +kernel
theorem dLa_law_472 : decode bLa_law 472 = .ok (.invokevirtual 70, 3) := by decide +kernel
theorem dLa_law_475 : decode bLa_law 475 = .ok (.iload 5, 2) := by decide +kernel
theorem dLa_law_477 : decode bLa_law 477 = .ok (.if_icmp .eq 5, 3) := by decide +kernel
theorem dLa_law_480 : decode bLa_law 480 = .ok (.iconst 0, 1) := by decide +kernel
theorem dLa_law_481 : decode bLa_law 481 = .ok (.ireturn, 1) := by decide +kernel
theorem dLa_law_482 : decode bLa_law 482 = .ok (.iload 5, 2) := by decide +kernel
theorem dLa_law_484 : decode bLa_law 484 = .ok (.ifCond .ne 15, 3) := by decide +kernel
theorem dLa_law_487 : decode bLa_law 487 = .ok (.aload_n 3, 1) := by decide +kernel
theorem dLa_law_488 : decode bLa_law 488 = .ok (.iconst 0, 1) := by decide +kernel
theorem dLa_law_489 : decode bLa_law 489 = .ok (.laload, 1) := by decide +kernel
theorem dLa_law_490 : decode bLa_law 490 = .ok (.iload 6, 2) := by decide +kernel
theorem dLa_law_492 : decode bLa_law 492 = .ok (.i2l, 1) := by decide +kernel
theorem dLa_law_493 : decode bLa_law 493 = .ok (.lcmp, 1) := by decide +kernel
theorem dLa_law_494 : decode bLa_law 494 = .ok (.ifCond .eq 5, 3) := by decide +kernel
theorem dLa_law_497 : decode bLa_law 497 = .ok (.iconst 0, 1) := by decide +kernel
theorem dLa_law_498 : decode bLa_law 498 = .ok (.ireturn, 1) := by decide +kernel
theorem dLa_law_499 : decode bLa_law 499 = .ok (.goto 395, 3) := by decide +kernel
theorem dLa_law_502 : decode bLa_law 502 = .ok (.aload_n 1, 1) := by decide +kernel
theorem dLa_law_503 : decode bLa_law 503 = .ok (.aload_n 0, 1) := by decide +kernel
theorem dLa_law_504 : decode bLa_law 504 = .ok (.iload 4, 2) := by decide +kernel
theorem dLa_law_506 : decode bLa_law 506 = .ok (.iconst 1, 1) := by decide +kernel
theorem dLa_law_507 : decode bLa_law 507 = .ok (.iadd, 1) := by decide +kernel
theorem dLa_law_508 : decode bLa_law 508 = .ok (.iaload, 1) := by decide +kernel
theorem dLa_law_509 : decode bLa_law 509 = .ok (.aload_n 3, 1) := by decide +kernel
theorem dLa_law_510 : decode bLa_law 510 = .ok (.invokestatic 99, 3) := by decide +kernel
theorem dLa_law_513 : decode bLa_law 513 = .ok (.istore 5, 2) := by decide +kernel
theorem dLa_law_515 : decode bLa_law 515 = .ok (.aload_n 2, 1) := by decide +kernel
theorem dLa_law_516 : decode bLa_law 516 = .ok (.aload_n 0, 1) := by decide +kernel
theorem dLa_law_517 : decode bLa_law 517 = .ok (.iload 4, 2) := by decide +kernel
theorem dLa_law_519 : decode bLa_law 519 = .ok (.iconst 1, 1) := by decide +kernel
theorem dLa_law_520 : decode bLa_law 520 = .ok (.iadd, 1) := by decide +kernel
theorem dLa_law_521 : decode bLa_law 521 = .ok (.iaload, 1) := by decide +kernel
theorem dLa_law_522 : decode bLa_law 522 = .ok (.invokevirtual 101, 3) := by decide +kernel
theorem dLa_law_525 : decode bLa_law 525 = .ok (.istore 6, 2) := by decide +kernel
theorem dLa_law_527 : decode bLa_law 527 = .ok (.aload_n 2, 1) := by decide +kernel
theorem dLa_law_528 : decode bLa_law 528 = .ok (.invokevirtual 70, 3) := by decide +kernel
theorem dLa_law_531 : decode bLa_law 531 = .ok (.iload 5, 2) := by decide +kernel
theorem dLa_law_533 : decode bLa_law 533 = .ok (.if_icmp .eq 5, 3) := by decide +kernel
theorem dLa_law_536 : decode bLa_law 536 = .ok (.iconst 0, 1) := by decide +kernel
theorem dLa_law_537 : decode bLa_law 537 = .ok (.ireturn, 1) := by decide +kernel
theorem dLa_law_538 : decode bLa_law 538 = .ok (.iload 5, 2) := by decide +kernel
theorem dLa_law_540 : decode bLa_law 540 = .ok (.ifCond .ne 15, 3) := by decide +kernel
theorem dLa_law_543 : decode bLa_law 543 = .ok (.aload_n 3, 1) := by decide +kernel
theorem dLa_law_544 : decode bLa_law 544 = .ok (.iconst 0, 1) := by decide +kernel
theorem dLa_law_545 : decode bLa_law 545 = .ok (.laload, 1) := by decide +kernel
theorem dLa_law_546 : decode bLa_law 546 = .ok (.iload 6, 2) := by decide +kernel
theorem dLa_law_548 : decode bLa_law 548 = .ok (.i2l, 1) := by decide +kernel
theorem dLa_law_549 : decode bLa_law 549 = .ok (.lcmp, 1) := by decide +kernel
theorem dLa_law_550 : decode bLa_law 550 = .ok (.ifCond .eq 5, 3) := by decide +kernel
theorem dLa_law_553 : decode bLa_law 553 = .ok (.iconst 0, 1) := by decide +kernel
theorem dLa_law_554 : decode bLa_law 554 = .ok (.ireturn, 1) := by decide +kernel
theorem dLa_law_555 : decode bLa_law 555 = .ok (.goto 339, 3) := by decide +kernel
theorem dLa_law_558 : decode bLa_law 558 = .ok (.aload_n 1, 1) := by decide +kernel
theorem dLa_law_559 : decode bLa_law 559 = .ok (.aload_n 0, 1) := by decide +kernel
theorem dLa_law_560 : decode bLa_law 560 = .ok (.iload 4, 2) := by decide +kernel
theorem dLa_law_562 : decode bLa_law 562 = .ok (.iconst 1, 1) := by decide +kernel
theorem dLa_law_563 : decode bLa_law 563 = .ok (.iadd, 1) := by decide +kernel
theorem dLa_law_564 : decode bLa_law 564 = .ok (.iaload, 1) := by decide +kernel
theorem dLa_law_565 : decode bLa_law 565 = .ok (.aload_n 3, 1) := by decide +kernel
theorem dLa_law_566 : decode bLa_law 566 = .ok (.invokestatic 102, 3) := by decide +kernel
theorem dLa_law_569 : decode bLa_law 569 = .ok (.istore 5, 2) := by decide +kernel
theorem dLa_law_571 : decode bLa_law 571 = .ok (.aload_n 2, 1) := by decide +kernel
theorem dLa_law_572 : decode bLa_law 572 = .ok (.aload_n 0, 1) := by decide +kernel
theorem dLa_law_573 : decode bLa_law 573 = .ok (.iload 4, 2) := by decide +kernel
theorem dLa_law_575 : decode bLa_law 575 = .ok (.iconst 1, 1) := by decide +kernel
theorem dLa_law_576 : decode bLa_law 576 = .ok (.iadd, 1) := by decide +kernel
theorem dLa_law_577 : decode bLa_law 577 = .ok (.iaload, 1) := by decide +kernel
theorem dLa_law_578 : decode bLa_law 578 = .ok (.invokevirtual 104, 3) := by decide +kernel
theorem dLa_law_581 : decode bLa_law 581 = .ok (.lstore 6, 2) := by decide +kernel
theorem dLa_law_583 : decode bLa_law 583 = .ok (.aload_n 2, 1) := by decide +kernel
theorem dLa_law_584 : decode bLa_law 584 = .ok (.invokevirtual 70, 3) := by decide +kernel
theorem dLa_law_587 : decode bLa_law 587 = .ok (.iload 5, 2) := by decide +kernel
theorem dLa_law_589 : decode bLa_law 589 = .ok (.if_icmp .eq 5, 3) := by decide +kernel
theorem dLa_law_592 : decode bLa_law 592 = .ok (.iconst 0, 1) := by decide +kernel
theorem dLa_law_593 : decode bLa_law 593 = .ok (.ireturn, 1) := by decide +kernel
theorem dLa_law_594 : decode bLa_law 594 = .ok (.iload 5, 2) := by decide +kernel
theorem dLa_law_596 : decode bLa_law 596 = .ok (.ifCond .ne 14, 3) := by decide +kernel
theorem dLa_law_599 : decode bLa_law 599 = .ok (.aload_n 3, 1) := by decide +kernel
theorem dLa_law_600 : decode bLa_law 600 = .ok (.iconst 0, 1) := by decide +kernel
theorem dLa_law_601 : decode bLa_law 601 = .ok (.laload, 1) := by decide +kernel
theorem dLa_law_602 : decode bLa_law 602 = .ok (.lload 6, 2) := by decide +kernel
theorem dLa_law_604 : decode bLa_law 604 = .ok (.lcmp, 1) := by decide +kernel
theorem dLa_law_605 : decode bLa_law 605 = .ok (.ifCond .eq 5, 3) := by decide +kernel
theorem dLa_law_608 : decode bLa_law 608 = .ok (.iconst 0, 1) := by decide +kernel
theorem dLa_law_609 : decode bLa_law 609 = .ok (.ireturn, 1) := by decide +kernel
theorem dLa_law_610 : decode bLa_law 610 = .ok (.goto 284, 3) := by decide +kernel
theorem dLa_law_613 : decode bLa_law 613 = .ok (.aload_n 1, 1) := by decide +kernel
theorem dLa_law_614 : decode bLa_law 614 = .ok (.aload_n 0, 1) := by decide +kernel
theorem dLa_law_615 : decode bLa_law 615 = .ok (.iload 4, 2) := by decide +kernel
theorem dLa_law_617 : decode bLa_law 617 = .ok (.iconst 1, 1) := by decide +kernel
theorem dLa_law_618 : decode bLa_law 618 = .ok (.iadd, 1) := by decide +kernel
theorem dLa_law_619 : decode bLa_law 619 = .ok (.iaload, 1) := by decide +kernel
theorem dLa_law_620 : decode bLa_law 620 = .ok (.aload_n 3, 1) := by decide +kernel
theorem dLa_law_621 : decode bLa_law 621 = .ok (.invokestatic 105, 3) := by decide +kernel
theorem dLa_law_624 : decode bLa_law 624 = .ok (.istore 5, 2) := by decide +kernel
theorem dLa_law_626 : decode bLa_law 626 = .ok (.aload_n 2, 1) := by decide +kernel
theorem dLa_law_627 : decode bLa_law 627 = .ok (.aload_n 0, 1) := by decide +kernel
theorem dLa_law_628 : decode bLa_law 628 = .ok (.iload 4, 2) := by decide +kernel
theorem dLa_law_630 : decode bLa_law 630 = .ok (.iconst 1, 1) := by decide +kernel
theorem dLa_law_631 : decode bLa_law 631 = .ok (.iadd, 1) := by decide +kernel
theorem dLa_law_632 : decode bLa_law 632 = .ok (.iaload, 1) := by decide +kernel
theorem dLa_law_633 : decode bLa_law 633 = .ok (.invokevirtual 107, 3) := by decide +kernel
theorem dLa_law_636 : decode bLa_law 636 = .ok (.istore 6, 2) := by decide +kernel
theorem dLa_law_638 : decode bLa_law 638 = .ok (.aload_n 2, 1) := by decide +kernel
theorem dLa_law_639 : decode bLa_law 639 = .ok (.invokevirtual 70, 3) := by decide +kernel
theorem dLa_law_642 : decode bLa_law 642 = .ok (.iload 5, 2) := by decide +kernel
theorem dLa_law_644 : decode bLa_law 644 = .ok (.if_icmp .eq 5, 3) := by decide +kernel
theorem dLa_law_647 : decode bLa_law 647 = .ok (.iconst 0, 1) := by decide +kernel
theorem dLa_law_648 : decode bLa_law 648 = .ok (.ireturn, 1) := by decide +kernel
theorem dLa_law_649 : decode bLa_law 649 = .ok (.iload 5, 2) := by decide +kernel
theorem dLa_law_651 : decode bLa_law 651 = .ok (.ifCond .ne 15, 3) := by decide +kernel
theorem dLa_law_654 : decode bLa_law 654 = .ok (.aload_n 3, 1) := by decide +kernel
theorem dLa_law_655 : decode bLa_law 655 = .ok (.iconst 0, 1) := by decide +kernel
theorem dLa_law_656 : decode bLa_law 656 = .ok (.laload, 1) := by decide +kernel
theorem dLa_law_657 : decode bLa_law 657 = .ok (.iload 6, 2) := by decide +kernel
theorem dLa_law_659 : decode bLa_law 659 = .ok (.i2l, 1) := by decide +kernel
theorem dLa_law_660 : decode bLa_law 660 = .ok (.lcmp, 1) := by decide +kernel
theorem dLa_law_661 : decode bLa_law 661 = .ok (.ifCond .eq 5, 3) := by decide +kernel
theorem dLa_law_664 : decode bLa_law 664 = .ok (.iconst 0, 1) := by decide +kernel
theorem dLa_law_665 : decode bLa_law 665 = .ok (.ireturn, 1) := by decide +kernel
theorem dLa_law_666 : decode bLa_law 666 = .ok (.goto 228, 3) := by decide +kernel
theorem dLa_law_669 : decode bLa_law 669 = .ok (.aload_n 1, 1) := by decide +kernel
theorem dLa_law_670 : decode bLa_law 670 = .ok (.aload_n 0, 1) := by decide +kernel
theorem dLa_law_671 : decode bLa_law 671 = .ok (.iload 4, 2) := by decide +kernel
theorem dLa_law_673 : decode bLa_law 673 = .ok (.iconst 1, 1) := by decide +kernel
theorem dLa_law_674 : decode bLa_law 674 = .ok (.iadd, 1) := by decide +kernel
theorem dLa_law_675 : decode bLa_law 675 = .ok (.iaload, 1) := by decide +kernel
theorem dLa_law_676 : decode bLa_law 676 = .ok (.aload_n 3, 1) := by decide +kernel
theorem dLa_law_677 : decode bLa_law 677 = .ok (.invokestatic 108, 3) := by decide +kernel
theorem dLa_law_680 : decode bLa_law 680 = .ok (.istore 5, 2) := by decide +kernel
theorem dLa_law_682 : decode bLa_law 682 = .ok (.aload_n 2, 1) := by decide +kernel
theorem dLa_law_683 : decode bLa_law 683 = .ok (.aload_n 0, 1) := by decide +kernel
theorem dLa_law_684 : decode bLa_law 684 = .ok (.iload 4, 2) := by decide +kernel
theorem dLa_law_686 : decode bLa_law 686 = .ok (.iconst 1, 1) := by decide +kernel
theorem dLa_law_687 : decode bLa_law 687 = .ok (.iadd, 1) := by decide +kernel
theorem dLa_law_688 : decode bLa_law 688 = .ok (.iaload, 1) := by decide +kernel
theorem dLa_law_689 : decode bLa_law 689 = .ok (.invokevirtual 110, 3) := by decide +kernel
theorem dLa_law_692 : decode bLa_law 692 = .ok (.istore 6, 2) := by decide +kernel
theorem dLa_law_694 : decode bLa_law 694 = .ok (.aload_n 2, 1) := by decide +kernel
theorem dLa_law_695 : decode bLa_law 695 = .ok (.invokevirtual 70, 3) := by decide +kernel
theorem dLa_law_698 : decode bLa_law 698 = .ok (.iload 5, 2) := by decide +kernel
theorem dLa_law_700 : decode bLa_law 700 = .ok (.if_icmp .eq 5, 3) := by decide +kernel
theorem dLa_law_703 : decode bLa_law 703 = .ok (.iconst 0, 1) := by decide +kernel
theorem dLa_law_704 : decode bLa_law 704 = .ok (.ireturn, 1) := by decide +kernel
theorem dLa_law_705 : decode bLa_law 705 = .ok (.iload 5, 2) := by decide +kernel
theorem dLa_law_707 : decode bLa_law 707 = .ok (.ifCond .ne 15, 3) := by decide +kernel
theorem dLa_law_710 : decode bLa_law 710 = .ok (.aload_n 3, 1) := by decide +kernel
theorem dLa_law_711 : decode bLa_law 711 = .ok (.iconst 0, 1) := by decide +kernel
theorem dLa_law_712 : decode bLa_law 712 = .ok (.laload, 1) := by decide +kernel
theorem dLa_law_713 : decode bLa_law 713 = .ok (.iload 6, 2) := by decide +kernel
theorem dLa_law_715 : decode bLa_law 715 = .ok (.i2l, 1) := by decide +kernel
theorem dLa_law_716 : decode bLa_law 716 = .ok (.lcmp, 1) := by decide +kernel
theorem dLa_law_717 : decode bLa_law 717 = .ok (.ifCond .eq 5, 3) := by decide +kernel
theorem dLa_law_720 : decode bLa_law 720 = .ok (.iconst 0, 1) := by decide +kernel
theorem dLa_law_721 : decode bLa_law 721 = .ok (.ireturn, 1) := by decide +kernel
theorem dLa_law_722 : decode bLa_law 722 = .ok (.goto 172, 3) := by decide +kernel
theorem dLa_law_725 : decode bLa_law 725 = .ok (.aload_n 1, 1) := by decide +kernel
theorem dLa_law_726 : decode bLa_law 726 = .ok (.invokevirtual 111, 3) := by decide +kernel
theorem dLa_law_729 : decode bLa_law 729 = .ok (.aload_n 2, 1) := by decide +kernel
theorem dLa_law_730 : decode bLa_law 730 = .ok (.invokevirtual 114, 3) := by decide +kernel
theorem dLa_law_733 : decode bLa_law 733 = .ok (.if_icmp .eq 161, 3) := by decide +kernel
theorem dLa_law_736 : decode bLa_law 736 = .ok (.iconst 0, 1) := by decide +kernel
theorem dLa_law_737 : decode bLa_law 737 = .ok (.ireturn, 1) := by decide +kernel
theorem dLa_law_738 : decode bLa_law 738 = .ok (.aload_n 1, 1) := by decide +kernel
theorem dLa_law_739 : decode bLa_law 739 = .ok (.aload_n 3, 1) := by decide +kernel
theorem dLa_law_740 : decode bLa_law 740 = .ok (.invokestatic 115, 3) := by decide +kernel
theorem dLa_law_743 : decode bLa_law 743 = .ok (.istore 5, 2) := by decide +kernel
theorem dLa_law_745 : decode bLa_law 745 = .ok (.aload_n 2, 1) := by decide +kernel
theorem dLa_law_746 : decode bLa_law 746 = .ok (.invokevirtual 118, 3) := by decide +kernel
theorem dLa_law_749 : decode bLa_law 749 = .ok (.istore 6, 2) := by decide +kernel
theorem dLa_law_751 : decode bLa_law 751 = .ok (.aload_n 2, 1) := by decide +kernel
theorem dLa_law_752 : decode bLa_law 752 = .ok (.invokevirtual 70, 3) := by decide +kernel
theorem dLa_law_755 : decode bLa_law 755 = .ok (.iload 5, 2) := by decide +kernel
theorem dLa_law_757 : decode bLa_law 757 = .ok (.if_icmp .eq 5, 3) := by decide +kernel
theorem dLa_law_760 : decode bLa_law 760 = .ok (.iconst 0, 1) := by decide +kernel
theorem dLa_law_761 : decode bLa_law 761 = .ok (.ireturn, 1) := by decide +kernel
theorem dLa_law_762 : decode bLa_law 762 = .ok (.iload 5, 2) := by decide +kernel
theorem dLa_law_764 : decode bLa_law 764 = .ok (.ifCond .ne 15, 3) := by decide +kernel
theorem dLa_law_767 : decode bLa_law 767 = .ok (.aload_n 3, 1) := by decide +kernel
theorem dLa_law_768 : decode bLa_law 768 = .ok (.iconst 0, 1) := by decide +kernel
theorem dLa_law_769 : decode bLa_law 769 = .ok (.laload, 1) := by decide +kernel
theorem dLa_law_770 : decode bLa_law 770 = .ok (.iload 6, 2) := by decide +kernel
theorem dLa_law_772 : decode bLa_law 772 = .ok (.i2l, 1) := by decide +kernel
theorem dLa_law_773 : decode bLa_law 773 = .ok (.lcmp, 1) := by decide +kernel
theorem dLa_law_774 : decode bLa_law 774 = .ok (.ifCond .eq 5, 3) := by decide +kernel
theorem dLa_law_777 : decode bLa_law 777 = .ok (.iconst 0, 1) := by decide +kernel
theorem dLa_law_778 : decode bLa_law 778 = .ok (.ireturn, 1) := by decide +kernel
theorem dLa_law_779 : decode bLa_law 779 = .ok (.goto 115, 3) := by decide +kernel
theorem dLa_law_782 : decode bLa_law 782 = .ok (.aload_n 1, 1) := by decide +kernel
theorem dLa_law_783 : decode bLa_law 783 = .ok (.aload_n 0, 1) := by decide +kernel
theorem dLa_law_784 : decode bLa_law 784 = .ok (.iload 4, 2) := by decide +kernel
theorem dLa_law_786 : decode bLa_law 786 = .ok (.iconst 1, 1) := by decide +kernel
theorem dLa_law_787 : decode bLa_law 787 = .ok (.iadd, 1) := by decide +kernel
theorem dLa_law_788 : decode bLa_law 788 = .ok (.iaload, 1) := by decide +kernel
theorem dLa_law_789 : decode bLa_law 789 = .ok (.aload_n 3, 1) := by decide +kernel
theorem dLa_law_790 : decode bLa_law 790 = .ok (.invokestatic 119, 3) := by decide +kernel
theorem dLa_law_793 : decode bLa_law 793 = .ok (.istore 5, 2) := by decide +kernel
theorem dLa_law_795 : decode bLa_law 795 = .ok (.aload_n 2, 1) := by decide +kernel
theorem dLa_law_796 : decode bLa_law 796 = .ok (.aload_n 0, 1) := by decide +kernel
theorem dLa_law_797 : decode bLa_law 797 = .ok (.iload 4, 2) := by decide +kernel
theorem dLa_law_799 : decode bLa_law 799 = .ok (.iconst 1, 1) := by decide +kernel
theorem dLa_law_800 : decode bLa_law 800 = .ok (.iadd, 1) := by decide +kernel
theorem dLa_law_801 : decode bLa_law 801 = .ok (.iaload, 1) := by decide +kernel
theorem dLa_law_802 : decode bLa_law 802 = .ok (.invokevirtual 121, 3) := by decide +kernel
theorem dLa_law_805 : decode bLa_law 805 = .ok (.istore 6, 2) := by decide +kernel
theorem dLa_law_807 : decode bLa_law 807 = .ok (.aload_n 2, 1) := by decide +kernel
theorem dLa_law_808 : decode bLa_law 808 = .ok (.invokevirtual 70, 3) := by decide +kernel
theorem dLa_law_811 : decode bLa_law 811 = .ok (.iload 5, 2) := by decide +kernel
theorem dLa_law_813 : decode bLa_law 813 = .ok (.if_icmp .eq 5, 3) := by decide +kernel
theorem dLa_law_816 : decode bLa_law 816 = .ok (.iconst 0, 1) := by decide +kernel
theorem dLa_law_817 : decode bLa_law 817 = .ok (.ireturn, 1) := by decide +kernel
theorem dLa_law_818 : decode bLa_law 818 = .ok (.iload 5, 2) := by decide +kernel
theorem dLa_law_820 : decode bLa_law 820 = .ok (.ifCond .ne 15, 3) := by decide +kernel
theorem dLa_law_823 : decode bLa_law 823 = .ok (.aload_n 3, 1) := by decide +kernel
theorem dLa_law_824 : decode bLa_law 824 = .ok (.iconst 0, 1) := by decide +kernel
theorem dLa_law_825 : decode bLa_law 825 = .ok (.laload, 1) := by decide +kernel
theorem dLa_law_826 : decode bLa_law 826 = .ok (.iload 6, 2) := by decide +kernel
theorem dLa_law_828 : decode bLa_law 828 = .ok (.i2l, 1) := by decide +kernel
theorem dLa_law_829 : decode bLa_law 829 = .ok (.lcmp, 1) := by decide +kernel
theorem dLa_law_830 : decode bLa_law 830 = .ok (.ifCond .eq 5, 3) := by decide +kernel
theorem dLa_law_833 : decode bLa_law 833 = .ok (.iconst 0, 1) := by decide +kernel
theorem dLa_law_834 : decode bLa_law 834 = .ok (.ireturn, 1) := by decide +kernel
theorem dLa_law_835 : decode bLa_law 835 = .ok (.goto 59, 3) := by decide +kernel
theorem dLa_law_838 : decode bLa_law 838 = .ok (.aload_n 1, 1) := by decide +kernel
theorem dLa_law_839 : decode bLa_law 839 = .ok (.aload_n 0, 1) := by decide +kernel
theorem dLa_law_840 : decode bLa_law 840 = .ok (.iload 4, 2) := by decide +kernel
theorem dLa_law_842 : decode bLa_law 842 = .ok (.iconst 1, 1) := by decide +kernel
theorem dLa_law_843 : decode bLa_law 843 = .ok (.iadd, 1) := by decide +kernel
theorem dLa_law_844 : decode bLa_law 844 = .ok (.iaload, 1) := by decide +kernel
theorem dLa_law_845 : decode bLa_law 845 = .ok (.aload_n 3, 1) := by decide +kernel
theorem dLa_law_846 : decode bLa_law 846 = .ok (.invokestatic 122, 3) := by decide +kernel
theorem dLa_law_849 : decode bLa_law 849 = .ok (.istore 5, 2) := by decide +kernel
theorem dLa_law_851 : decode bLa_law 851 = .ok (.aload_n 2, 1) := by decide +kernel
theorem dLa_law_852 : decode bLa_law 852 = .ok (.aload_n 0, 1) := by decide +kernel
theorem dLa_law_853 : decode bLa_law 853 = .ok (.iload 4, 2) := by decide +kernel
theorem dLa_law_855 : decode bLa_law 855 = .ok (.iconst 1, 1) := by decide +kernel
theorem dLa_law_856 : decode bLa_law 856 = .ok (.iadd, 1) := by decide +kernel
theorem dLa_law_857 : decode bLa_law 857 = .ok (.iaload, 1) := by decide +kernel
theorem dLa_law_858 : decode bLa_law 858 = .ok (.invokevirtual 124, 3) := by decide +kernel
theorem dLa_law_861 : decode bLa_law 861 = .ok (.istore 6, 2) := by decide +kernel
theorem dLa_law_863 : decode bLa_law 863 = .ok (.aload_n 2, 1) := by decide +kernel
theorem dLa_law_864 : decode bLa_law 864 = .ok (.invokevirtual 70, 3) := by decide +kernel
theorem dLa_law_867 : decode bLa_law 867 = .ok (.iload 5, 2) := by decide +kernel
theorem dLa_law_869 : decode bLa_law 869 = .ok (.if_icmp .eq 5, 3) := by decide +kernel
theorem dLa_law_872 : decode bLa_law 872 = .ok (.iconst 0, 1) := by decide +kernel
theorem dLa_law_873 : decode bLa_law 873 = .ok (.ireturn, 1) := by decide +kernel
theorem dLa_law_874 : decode bLa_law 874 = .ok (.iload 5, 2) := by decide +kernel
theorem dLa_law_876 : decode bLa_law 876 = .ok (.ifCond .ne 15, 3) := by decide +kernel
theorem dLa_law_879 : decode bLa_law 879 = .ok (.aload_n 3, 1) := by decide +kernel
theorem dLa_law_880 : decode bLa_law 880 = .ok (.iconst 0, 1) := by decide +kernel
theorem dLa_law_881 : decode bLa_law 881 = .ok (.laload, 1) := by decide +kernel
theorem dLa_law_882 : decode bLa_law 882 = .ok (.iload 6, 2) := by decide +kernel
theorem dLa_law_884 : decode bLa_law 884 = .ok (.i2l, 1) := by decide +kernel
theorem dLa_law_885 : decode bLa_law 885 = .ok (.lcmp, 1) := by decide +kernel
theorem dLa_law_886 : decode bLa_law 886 = .ok (.ifCond .eq 5, 3) := by decide +kernel
theorem dLa_law_889 : decode bLa_law 889 = .ok (.iconst 0, 1) := by decide +kernel
theorem dLa_law_890 : decode bLa_law 890 = .ok (.ireturn, 1) := by decide +kernel
theorem dLa_law_891 : decode bLa_law 891 = .ok (.goto 3, 3) := by decide +kernel
theorem dLa_law_894 : decode bLa_law 894 = .ok (.iinc 4 6, 3) := by decide +kernel
theorem dLa_law_897 : decode bLa_law 897 = .ok (.goto (-874), 3) := by decide +kernel
theorem dLa_law_900 : decode bLa_law 900 = .ok (.iconst 1, 1) := by decide +kernel
theorem dLa_law_901 : decode bLa_law 901 = .ok (.ireturn, 1) := by decide +kernel
end
section
theorem dMo_init_0 : decode bMo_init 0 = .ok (.aload_n 0, 1) := by decide +kernel
theorem dMo_init_1 : decode bMo_init 1 = .ok (.invokespecial 1, 3) := by decide +kernel
theorem dMo_init_4 : decode bMo_init 4 = .ok (.aload_n 0, 1) := by decide +kernel
theorem dMo_init_5 : decode bMo_init 5 = .ok (.bipush 6, 2) := by decide +kernel
theorem dMo_init_7 : decode bMo_init 7 = .ok (.newarray .int, 2) := by decide +kernel
theorem dMo_init_9 : decode bMo_init 9 = .ok (.putfield 7, 3) := by decide +kernel
theorem dMo_init_12 : decode bMo_init 12 = .ok (.aload_n 0, 1) := by decide +kernel
theorem dMo_init_13 : decode bMo_init 13 = .ok (.bipush 6, 2) := by decide +kernel
theorem dMo_init_15 : decode bMo_init 15 = .ok (.newarray .int, 2) := by decide +kernel
theorem dMo_init_17 : decode bMo_init 17 = .ok (.putfield 13, 3) := by decide +kernel
theorem dMo_init_20 : decode bMo_init 20 = .ok (.aload_n 0, 1) := by decide +kernel
theorem dMo_init_21 : decode bMo_init 21 = .ok (.bipush 96, 2) := by decide +kernel
theorem dMo_init_23 : decode bMo_init 23 = .ok (.newarray .int, 2) := by decide +kernel
theorem dMo_init_25 : decode bMo_init 25 = .ok (.putfield 16, 3) := by decide +kernel
theorem dMo_init_28 : decode bMo_init 28 = .ok (.aload_n 0, 1) := by decide +kernel
theorem dMo_init_29 : decode bMo_init 29 = .ok (.bipush 48, 2) := by decide +kernel
theorem dMo_init_31 : decode bMo_init 31 = .ok (.newarray .int, 2) := by decide +kernel
theorem dMo_init_33 : decode bMo_init 33 = .ok (.putfield 19, 3) := by decide +kernel
theorem dMo_init_36 : decode bMo_init 36 = .ok (.aload_n 0, 1) := by decide +kernel
theorem dMo_init_37 : decode bMo_init 37 = .ok (.bipush 48, 2) := by decide +kernel
theorem dMo_init_39 : decode bMo_init 39 = .ok (.newarray .int, 2) := by decide +kernel
theorem dMo_init_41 : decode bMo_init 41 = .ok (.putfield 22, 3) := by decide +kernel
theorem dMo_init_44 : decode bMo_init 44 = .ok (.aload_n 0, 1) := by decide +kernel
theorem dMo_init_45 : decode bMo_init 45 = .ok (.bipush 48, 2) := by decide +kernel
theorem dMo_init_47 : decode bMo_init 47 = .ok (.newarray .int, 2) := by decide +kernel
theorem dMo_init_49 : decode bMo_init 49 = .ok (.putfield 25, 3) := by decide +kernel
theorem dMo_init_52 : decode bMo_init 52 = .ok (.aload_n 0, 1) := by decide +kernel
theorem dMo_init_53 : decode bMo_init 53 = .ok (.bipush 48, 2) := by decide +kernel
theorem dMo_init_55 : decode bMo_init 55 = .ok (.newarray .int, 2) := by decide +kernel
theorem dMo_init_57 : decode bMo_init 57 = .ok (.putfield 28, 3) := by decide +kernel
theorem dMo_init_60 : decode bMo_init 60 = .ok (.aload_n 0, 1) := by decide +kernel
theorem dMo_init_61 : decode bMo_init 61 = .ok (.bipush 48, 2) := by decide +kernel
theorem dMo_init_63 : decode bMo_init 63 = .ok (.newarray .int, 2) := by decide +kernel
theorem dMo_init_65 : decode bMo_init 65 = .ok (.putfield 31, 3) := by decide +kernel
theorem dMo_init_68 : decode bMo_init 68 = .ok (.aload_n 0, 1) := by decide +kernel
theorem dMo_init_69 : decode bMo_init 69 = .ok (.bipush 48, 2) := by decide +kernel
theorem dMo_init_71 : decode bMo_init 71 = .ok (.newarray .int, 2) := by decide +kernel
theorem dMo_init_73 : decode bMo_init 73 = .ok (.putfield 34, 3) := by decide +kernel
theorem dMo_init_76 : decode bMo_init 76 = .ok (.aload_n 0, 1) := by decide +kernel
theorem dMo_init_77 : decode bMo_init 77 = .ok (.bipush 48, 2) := by decide +kernel
theorem dMo_init_79 : decode bMo_init 79 = .ok (.newarray .int, 2) := by decide +kernel
theorem dMo_init_81 : decode bMo_init 81 = .ok (.putfield 37, 3) := by decide +kernel
theorem dMo_init_84 : decode bMo_init 84 = .ok (.aload_n 0, 1) := by decide +kernel
theorem dMo_init_85 : decode bMo_init 85 = .ok (.bipush 48, 2) := by decide +kernel
theorem dMo_init_87 : decode bMo_init 87 = .ok (.newarray .int, 2) := by decide +kernel
theorem dMo_init_89 : decode bMo_init 89 = .ok (.putfield 40, 3) := by decide +kernel
theorem dMo_init_92 : decode bMo_init 92 = .ok (.aload_n 0, 1) := by decide +kernel
theorem dMo_init_93 : decode bMo_init 93 = .ok (.bipush 8, 2) := by decide +kernel
theorem dMo_init_95 : decode bMo_init 95 = .ok (.newarray .int, 2) := by decide +kernel
theorem dMo_init_97 : decode bMo_init 97 = .ok (.putfield 43, 3) := by decide +kernel
theorem dMo_init_100 : decode bMo_init 100 = .ok (.aload_n 0, 1) := by decide +kernel
theorem dMo_init_101 : decode bMo_init 101 = .ok (.sipush 14007, 3) := by decide +kernel
theorem dMo_init_104 : decode bMo_init 104 = .ok (.newarray .int, 2) := by decide +kernel
theorem dMo_init_106 : decode bMo_init 106 = .ok (.putfield 46, 3) := by decide +kernel
theorem dMo_init_109 : decode bMo_init 109 = .ok (.aload_n 0, 1) := by decide +kernel
theorem dMo_init_110 : decode bMo_init 110 = .ok (.sipush 14007, 3) := by decide +kernel
theorem dMo_init_113 : decode bMo_init 113 = .ok (.newarray .long, 2) := by decide +kernel
theorem dMo_init_115 : decode bMo_init 115 = .ok (.putfield 49, 3) := by decide +kernel
theorem dMo_init_118 : decode bMo_init 118 = .ok (.aload_n 0, 1) := by decide +kernel
theorem dMo_init_119 : decode bMo_init 119 = .ok (.sipush 14007, 3) := by decide +kernel
theorem dMo_init_122 : decode bMo_init 122 = .ok (.newarray .boolean, 2) := by decide +kernel
theorem dMo_init_124 : decode bMo_init 124 = .ok (.putfield 53, 3) := by decide +kernel
theorem dMo_init_127 : decode bMo_init 127 = .ok (.aload_n 0, 1) := by decide +kernel
theorem dMo_init_128 : decode bMo_init 128 = .ok (.sipush 2001, 3) := by decide +kernel
theorem dMo_init_131 : decode bMo_init 131 = .ok (.newarray .long, 2) := by decide +kernel
theorem dMo_init_133 : decode bMo_init 133 = .ok (.putfield 57, 3) := by decide +kernel
theorem dMo_init_136 : decode bMo_init 136 = .ok (.aload_n 0, 1) := by decide +kernel
theorem dMo_init_137 : decode bMo_init 137 = .ok (.bipush 6, 2) := by decide +kernel
theorem dMo_init_139 : decode bMo_init 139 = .ok (.newarray .boolean, 2) := by decide +kernel
theorem dMo_init_141 : decode bMo_init 141 = .ok (.putfield 60, 3) := by decide +kernel
theorem dMo_init_144 : decode bMo_init 144 = .ok (.aload_n 0, 1) := by decide +kernel
theorem dMo_init_145 : decode bMo_init 145 = .ok (.bipush 6, 2) := by decide +kernel
theorem dMo_init_147 : decode bMo_init 147 = .ok (.newarray .int, 2) := by decide +kernel
theorem dMo_init_149 : decode bMo_init 149 = .ok (.putfield 63, 3) := by decide +kernel
theorem dMo_init_152 : decode bMo_init 152 = .ok (.aload_n 0, 1) := by decide +kernel
theorem dMo_init_153 : decode bMo_init 153 = .ok (.bipush 6, 2) := by decide +kernel
theorem dMo_init_155 : decode bMo_init 155 = .ok (.newarray .int, 2) := by decide +kernel
theorem dMo_init_157 : decode bMo_init 157 = .ok (.putfield 66, 3) := by decide +kernel
theorem dMo_init_160 : decode bMo_init 160 = .ok (.aload_n 0, 1) := by decide +kernel
theorem dMo_init_161 : decode bMo_init 161 = .ok (.bipush 6, 2) := by decide +kernel
theorem dMo_init_163 : decode bMo_init 163 = .ok (.newarray .long, 2) := by decide +kernel
theorem dMo_init_165 : decode bMo_init 165 = .ok (.putfield 69, 3) := by decide +kernel
theorem dMo_init_168 : decode bMo_init 168 = .ok (.aload_n 0, 1) := by decide +kernel
theorem dMo_init_169 : decode bMo_init 169 = .ok (.bipush 6, 2) := by decide +kernel
theorem dMo_init_171 : decode bMo_init 171 = .ok (.newarray .int, 2) := by decide +kernel
theorem dMo_init_173 : decode bMo_init 173 = .ok (.putfield 72, 3) := by decide +kernel
theorem dMo_init_176 : decode bMo_init 176 = .ok (.aload_n 0, 1) := by decide +kernel
theorem dMo_init_177 : decode bMo_init 177 = .ok (.bipush 6, 2) := by decide +kernel
theorem dMo_init_179 : decode bMo_init 179 = .ok (.newarray .int, 2) := by decide +kernel
theorem dMo_init_181 : decode bMo_init 181 = .ok (.putfield 75, 3) := by decide +kernel
theorem dMo_init_184 : decode bMo_init 184 = .ok (.aload_n 0, 1) := by decide +kernel
theorem dMo_init_185 : decode bMo_init 185 = .ok (.bipush 6, 2) := by decide +kernel
theorem dMo_init_187 : decode bMo_init 187 = .ok (.newarray .boolean, 2) := by decide +kernel
theorem dMo_init_189 : decode bMo_init 189 = .ok (.putfield 78, 3) := by decide +kernel
theorem dMo_init_192 : decode bMo_init 192 = .ok (.aload_n 0, 1) := by decide +kernel
theorem dMo_init_193 : decode bMo_init 193 = .ok (.bipush 48, 2) := by decide +kernel
theorem dMo_init_195 : decode bMo_init 195 = .ok (.newarray .int, 2) := by decide +kernel
theorem dMo_init_197 : decode bMo_init 197 = .ok (.putfield 81, 3) := by decide +kernel
theorem dMo_init_200 : decode bMo_init 200 = .ok (.aload_n 0, 1) := by decide +kernel
theorem dMo_init_201 : decode bMo_init 201 = .ok (.bipush 48, 2) := by decide +kernel
theorem dMo_init_203 : decode bMo_init 203 = .ok (.newarray .int, 2) := by decide +kernel
theorem dMo_init_205 : decode bMo_init 205 = .ok (.putfield 84, 3) := by decide +kernel
theorem dMo_init_208 : decode bMo_init 208 = .ok (.aload_n 0, 1) := by decide +kernel
theorem dMo_init_209 : decode bMo_init 209 = .ok (.bipush 6, 2) := by decide +kernel
theorem dMo_init_211 : decode bMo_init 211 = .ok (.newarray .int, 2) := by decide +kernel
theorem dMo_init_213 : decode bMo_init 213 = .ok (.putfield 87, 3) := by decide +kernel
theorem dMo_init_216 : decode bMo_init 216 = .ok (.aload_n 0, 1) := by decide +kernel
theorem dMo_init_217 : decode bMo_init 217 = .ok (.invokevirtual 90, 3) := by decide +kernel
theorem dMo_init_220 : decode bMo_init 220 = .ok (.return_, 1) := by decide +kernel
theorem dMo_forget_0 : decode bMo_forget 0 = .ok (.iconst 0, 1) := by decide +kernel
theorem dMo_forget_1 : decode bMo_forget 1 = .ok (.istore_n 1, 1) := by decide +kernel
theorem dMo_forget_2 : decode bMo_forget 2 = .ok (.iload_n 1, 1) := by decide +kernel
theorem dMo_forget_3 : decode bMo_forget 3 = .ok (.bipush 8, 2) := by decide +kernel
theorem dMo_forget_5 : decode bMo_forget 5 = .ok (.if_icmp .ge 16, 3) := by decide +kernel
theorem dMo_forget_8 : decode bMo_forget 8 = .ok (.aload_n 0, 1) := by decide +kernel
theorem dMo_forget_9 : decode bMo_forget 9 = .ok (.getfield 43, 3) := by decide +kernel
theorem dMo_forget_12 : decode bMo_forget 12 = .ok (.iload_n 1, 1) := by decide +kernel
theorem dMo_forget_13 : decode bMo_forget 13 = .ok (.iconst (-1), 1) := by decide +kernel
theorem dMo_forget_14 : decode bMo_forget 14 = .ok (.iastore, 1) := by decide +kernel
theorem dMo_forget_15 : decode bMo_forget 15 = .ok (.iinc 1 1, 3) := by decide +kernel
theorem dMo_forget_18 : decode bMo_forget 18 = .ok (.goto (-16), 3) := by decide +kernel
theorem dMo_forget_21 : decode bMo_forget 21 = .ok (.aload_n 0, 1) := by decide +kernel
theorem dMo_forget_22 : decode bMo_forget 22 = .ok (.invokevirtual 97, 3) := by decide +kernel
theorem dMo_forget_25 : decode bMo_forget 25 = .ok (.return_, 1) := by decide +kernel
theorem dMo_change_0 : decode bMo_change 0 = .ok (.iconst 0, 1) := by decide +kernel
theorem dMo_change_1 : decode bMo_change 1 = .ok (.istore_n 1, 1) := by decide +kernel
theorem dMo_change_2 : decode bMo_change 2 = .ok (.iload_n 1, 1) := by decide +kernel
theorem dMo_change_3 : decode bMo_change 3 = .ok (.bipush 6, 2) := by decide +kernel
theorem dMo_change_5 : decode bMo_change 5 = .ok (.if_icmp .ge 23, 3) := by decide +kernel
theorem dMo_change_8 : decode bMo_change 8 = .ok (.aload_n 0, 1) := by decide +kernel
theorem dMo_change_9 : decode bMo_change 9 = .ok (.getfield 60, 3) := by decide +kernel
theorem dMo_change_12 : decode bMo_change 12 = .ok (.iload_n 1, 1) := by decide +kernel
theorem dMo_change_13 : decode bMo_change 13 = .ok (.iconst 0, 1) := by decide +kernel
theorem dMo_change_14 : decode bMo_change 14 = .ok (.bastore, 1) := by decide +kernel
theorem dMo_change_15 : decode bMo_change 15 = .ok (.aload_n 0, 1) := by decide +kernel
theorem dMo_change_16 : decode bMo_change 16 = .ok (.getfield 78, 3) := by decide +kernel
theorem dMo_change_19 : decode bMo_change 19 = .ok (.iload_n 1, 1) := by decide +kernel
theorem dMo_change_20 : decode bMo_change 20 = .ok (.iconst 0, 1) := by decide +kernel
theorem dMo_change_21 : decode bMo_change 21 = .ok (.bastore, 1) := by decide +kernel
theorem dMo_change_22 : decode bMo_change 22 = .ok (.iinc 1 1, 3) := by decide +kernel
theorem dMo_change_25 : decode bMo_change 25 = .ok (.goto (-23), 3) := by decide +kernel
theorem dMo_change_28 : decode bMo_change 28 = .ok (.aload_n 0, 1) := by decide +kernel
theorem dMo_change_29 : decode bMo_change 29 = .ok (.iconst 0, 1) := by decide +kernel
theorem dMo_change_30 : decode bMo_change 30 = .ok (.putfield 100, 3) := by decide +kernel
theorem dMo_change_33 : decode bMo_change 33 = .ok (.return_, 1) := by decide +kernel
theorem dMo_thrown_0 : decode bMo_thrown 0 = .ok (.aload_n 0, 1) := by decide +kernel
theorem dMo_thrown_1 : decode bMo_thrown 1 = .ok (.getfield 93, 3) := by decide +kernel
theorem dMo_thrown_4 : decode bMo_thrown 4 = .ok (.ireturn, 1) := by decide +kernel
theorem dMo_object_0 : decode bMo_object 0 = .ok (.aload_n 0, 1) := by decide +kernel
theorem dMo_object_1 : decode bMo_object 1 = .ok (.iload_n 1, 1) := by decide +kernel
theorem dMo_object_2 : decode bMo_object 2 = .ok (.ifCond .lt 8, 3) := by decide +kernel
theorem dMo_object_5 : decode bMo_object 5 = .ok (.iload_n 1, 1) := by decide +kernel
theorem dMo_object_6 : decode bMo_object 6 = .ok (.iconst 5, 1) := by decide +kernel
theorem dMo_object_7 : decode bMo_object 7 = .ok (.if_icmp .le 7, 3) := by decide +kernel
theorem dMo_object_10 : decode bMo_object 10 = .ok (.iconst 1, 1) := by decide +kernel
theorem dMo_object_11 : decode bMo_object 11 = .ok (.goto 4, 3) := by decide +kernel
theorem dMo_object_14 : decode bMo_object 14 = .ok (.iconst 0, 1) := by decide +kernel
theorem dMo_object_15 : decode bMo_object 15 = .ok (.putfield 93, 3) := by decide +kernel
theorem dMo_object_18 : decode bMo_object 18 = .ok (.aload_n 0, 1) := by decide +kernel
theorem dMo_object_19 : decode bMo_object 19 = .ok (.getfield 93, 3) := by decide +kernel
theorem dMo_object_22 : decode bMo_object 22 = .ok (.ifCond .le 5, 3) := by decide +kernel
theorem dMo_object_25 : decode bMo_object 25 = .ok (.iconst 0, 1) := by decide +kernel
theorem dMo_object_26 : decode bMo_object 26 = .ok (.ireturn, 1) := by decide +kernel
theorem dMo_object_27 : decode bMo_object 27 = .ok (.aload_n 0, 1) := by decide +kernel
theorem dMo_object_28 : decode bMo_object 28 = .ok (.getfield 104, 3) := by decide +kernel
theorem dMo_object_31 : decode bMo_object 31 = .ok (.bipush 6, 2) := by decide +kernel
theorem dMo_object_33 : decode bMo_object 33 = .ok (.if_icmp .ne 5, 3) := by decide +kernel
theorem dMo_object_36 : decode bMo_object 36 = .ok (.iconst (-1), 1) := by decide +kernel
theorem dMo_object_37 : decode bMo_object 37 = .ok (.ireturn, 1) := by decide +kernel
theorem dMo_object_38 : decode bMo_object 38 = .ok (.aload_n 0, 1) := by decide +kernel
theorem dMo_object_39 : decode bMo_object 39 = .ok (.getfield 7, 3) := by decide +kernel
theorem dMo_object_42 : decode bMo_object 42 = .ok (.aload_n 0, 1) := by decide +kernel
theorem dMo_object_43 : decode bMo_object 43 = .ok (.getfield 104, 3) := by decide +kernel
theorem dMo_object_46 : decode bMo_object 46 = .ok (.iload_n 1, 1) := by decide +kernel
theorem dMo_object_47 : decode bMo_object 47 = .ok (.iastore, 1) := by decide +kernel
theorem dMo_object_48 : decode bMo_object 48 = .ok (.aload_n 0, 1) := by decide +kernel
theorem dMo_object_49 : decode bMo_object 49 = .ok (.getfield 13, 3) := by decide +kernel
theorem dMo_object_52 : decode bMo_object 52 = .ok (.aload_n 0, 1) := by decide +kernel
theorem dMo_object_53 : decode bMo_object 53 = .ok (.getfield 104, 3) := by decide +kernel
theorem dMo_object_56 : decode bMo_object 56 = .ok (.iconst 0, 1) := by decide +kernel
theorem dMo_object_57 : decode bMo_object 57 = .ok (.iastore, 1) := by decide +kernel
theorem dMo_object_58 : decode bMo_object 58 = .ok (.aload_n 0, 1) := by decide +kernel
theorem dMo_object_59 : decode bMo_object 59 = .ok (.dup, 1) := by decide +kernel
theorem dMo_object_60 : decode bMo_object 60 = .ok (.getfield 104, 3) := by decide +kernel
theorem dMo_object_63 : decode bMo_object 63 = .ok (.iconst 1, 1) := by decide +kernel
theorem dMo_object_64 : decode bMo_object 64 = .ok (.iadd, 1) := by decide +kernel
theorem dMo_object_65 : decode bMo_object 65 = .ok (.putfield 104, 3) := by decide +kernel
theorem dMo_object_68 : decode bMo_object 68 = .ok (.aload_n 0, 1) := by decide +kernel
theorem dMo_object_69 : decode bMo_object 69 = .ok (.invokevirtual 97, 3) := by decide +kernel
theorem dMo_object_72 : decode bMo_object 72 = .ok (.aload_n 0, 1) := by decide +kernel
theorem dMo_object_73 : decode bMo_object 73 = .ok (.getfield 104, 3) := by decide +kernel
theorem dMo_object_76 : decode bMo_object 76 = .ok (.iconst 1, 1) := by decide +kernel
theorem dMo_object_77 : decode bMo_object 77 = .ok (.isub, 1) := by decide +kernel
theorem dMo_object_78 : decode bMo_object 78 = .ok (.ireturn, 1) := by decide +kernel
theorem dMo_call_0 : decode bMo_call 0 = .ok (.iload_n 1, 1) := by decide +kernel
theorem dMo_call_1 : decode bMo_call 1 = .ok (.ifCond .lt 21, 3) := by decide +kernel
theorem dMo_call_4 : decode bMo_call 4 = .ok (.iload_n 1, 1) := by decide +kernel
theorem dMo_call_5 : decode bMo_call 5 = .ok (.bipush 7, 2) := by decide +kernel
theorem dMo_call_7 : decode bMo_call 7 = .ok (.if_icmp .gt 15, 3) := by decide +kernel
theorem dMo_call_10 : decode bMo_call 10 = .ok (.aload_n 0, 1) := by decide +kernel
theorem dMo_call_11 : decode bMo_call 11 = .ok (.iload_n 2, 1) := by decide +kernel
theorem dMo_call_12 : decode bMo_call 12 = .ok (.invokevirtual 107, 3) := by decide +kernel
theorem dMo_call_15 : decode bMo_call 15 = .ok (.ifCond .ne 7, 3) := by decide +kernel
theorem dMo_call_18 : decode bMo_call 18 = .ok (.iload_n 3, 1) := by decide +kernel
theorem dMo_call_19 : decode bMo_call 19 = .ok (.ifCond .ge 7, 3) := by decide +kernel
theorem dMo_call_22 : decode bMo_call 22 = .ok (.iconst 1, 1) := by decide +kernel
theorem dMo_call_23 : decode bMo_call 23 = .ok (.goto 4, 3) := by decide +kernel
theorem dMo_call_26 : decode bMo_call 26 = .ok (.iconst 0, 1) := by decide +kernel
theorem dMo_call_27 : decode bMo_call 27 = .ok (.istore 6, 2) := by decide +kernel
theorem dMo_call_29 : decode bMo_call 29 = .ok (.aload_n 0, 1) := by decide +kernel
theorem dMo_call_30 : decode bMo_call 30 = .ok (.iload 6, 2) := by decide +kernel
theorem dMo_call_32 : decode bMo_call 32 = .ok (.ifCond .ne 21, 3) := by decide +kernel
theorem dMo_call_35 : decode bMo_call 35 = .ok (.iload_n 3, 1) := by decide +kernel
theorem dMo_call_36 : decode bMo_call 36 = .ok (.aload_n 0, 1) := by decide +kernel
theorem dMo_call_37 : decode bMo_call 37 = .ok (.getfield 7, 3) := by decide +kernel
theorem dMo_call_40 : decode bMo_call 40 = .ok (.iload_n 2, 1) := by decide +kernel
theorem dMo_call_41 : decode bMo_call 41 = .ok (.iaload, 1) := by decide +kernel
theorem dMo_call_42 : decode bMo_call 42 = .ok (.ifCond .ne 7, 3) := by decide +kernel
theorem dMo_call_45 : decode bMo_call 45 = .ok (.iconst 4, 1) := by decide +kernel
theorem dMo_call_46 : decode bMo_call 46 = .ok (.goto 4, 3) := by decide +kernel
theorem dMo_call_49 : decode bMo_call 49 = .ok (.iconst 2, 1) := by decide +kernel
theorem dMo_call_50 : decode bMo_call 50 = .ok (.if_icmp .le 7, 3) := by decide +kernel
theorem dMo_call_53 : decode bMo_call 53 = .ok (.iconst 1, 1) := by decide +kernel
theorem dMo_call_54 : decode bMo_call 54 = .ok (.goto 17, 3) := by decide +kernel
theorem dMo_call_57 : decode bMo_call 57 = .ok (.aload_n 0, 1) := by decide +kernel
theorem dMo_call_58 : decode bMo_call 58 = .ok (.getfield 43, 3) := by decide +kernel
theorem dMo_call_61 : decode bMo_call 61 = .ok (.iload_n 1, 1) := by decide +kernel
theorem dMo_call_62 : decode bMo_call 62 = .ok (.iaload, 1) := by decide +kernel
theorem dMo_call_63 : decode bMo_call 63 = .ok (.ifCond .lt 7, 3) := by decide +kernel
theorem dMo_call_66 : decode bMo_call 66 = .ok (.iconst 2, 1) := by decide +kernel
theorem dMo_call_67 : decode bMo_call 67 = .ok (.goto 4, 3) := by decide +kernel
theorem dMo_call_70 : decode bMo_call 70 = .ok (.iconst 0, 1) := by decide +kernel
theorem dMo_call_71 : decode bMo_call 71 = .ok (.putfield 93, 3) := by decide +kernel
theorem dMo_call_74 : decode bMo_call 74 = .ok (.aload_n 0, 1) := by decide +kernel
theorem dMo_call_75 : decode bMo_call 75 = .ok (.getfield 93, 3) := by decide +kernel
theorem dMo_call_78 : decode bMo_call 78 = .ok (.ifCond .le 5, 3) := by decide +kernel
theorem dMo_call_81 : decode bMo_call 81 = .ok (.iconst 0, 1) := by decide +kernel
theorem dMo_call_82 : decode bMo_call 82 = .ok (.ireturn, 1) := by decide +kernel
theorem dMo_call_83 : decode bMo_call 83 = .ok (.aload_n 0, 1) := by decide +kernel
theorem dMo_call_84 : decode bMo_call 84 = .ok (.getfield 111, 3) := by decide +kernel
theorem dMo_call_87 : decode bMo_call 87 = .ok (.bipush 48, 2) := by decide +kernel
theorem dMo_call_89 : decode bMo_call 89 = .ok (.if_icmp .eq 14, 3) := by decide +kernel
theorem dMo_call_92 : decode bMo_call 92 = .ok (.aload_n 0, 1) := by decide +kernel
theorem dMo_call_93 : decode bMo_call 93 = .ok (.getfield 13, 3) := by decide +kernel
theorem dMo_call_96 : decode bMo_call 96 = .ok (.iload_n 2, 1) := by decide +kernel
theorem dMo_call_97 : decode bMo_call 97 = .ok (.iaload, 1) := by decide +kernel
theorem dMo_call_98 : decode bMo_call 98 = .ok (.bipush 16, 2) := by decide +kernel
theorem dMo_call_100 : decode bMo_call 100 = .ok (.if_icmp .ne 5, 3) := by decide +kernel
theorem dMo_call_103 : decode bMo_call 103 = .ok (.iconst (-1), 1) := by decide +kernel
theorem dMo_call_104 : decode bMo_call 104 = .ok (.ireturn, 1) := by decide +kernel
theorem dMo_call_105 : decode bMo_call 105 = .ok (.aload_n 0, 1) := by decide +kernel
theorem dMo_call_106 : decode bMo_call 106 = .ok (.dup, 1) := by decide +kernel
theorem dMo_call_107 : decode bMo_call 107 = .ok (.getfield 114, 3) := by decide +kernel
theorem dMo_call_110 : decode bMo_call 110 = .ok (.iconst 1, 1) := by decide +kernel
theorem dMo_call_111 : decode bMo_call 111 = .ok (.iadd, 1) := by decide +kernel
theorem dMo_call_112 : decode bMo_call 112 = .ok (.putfield 114, 3) := by decide +kernel
theorem dMo_call_115 : decode bMo_call 115 = .ok (.aload_n 0, 1) := by decide +kernel
theorem dMo_call_116 : decode bMo_call 116 = .ok (.getfield 111, 3) := by decide +kernel
theorem dMo_call_119 : decode bMo_call 119 = .ok (.istore 7, 2) := by decide +kernel
theorem dMo_call_121 : decode bMo_call 121 = .ok (.aload_n 0, 1) := by decide +kernel
theorem dMo_call_122 : decode bMo_call 122 = .ok (.dup, 1) := by decide +kernel
theorem dMo_call_123 : decode bMo_call 123 = .ok (.getfield 111, 3) := by decide +kernel
theorem dMo_call_126 : decode bMo_call 126 = .ok (.iconst 1, 1) := by decide +kernel
theorem dMo_call_127 : decode bMo_call 127 = .ok (.iadd, 1) := by decide +kernel
theorem dMo_call_128 : decode bMo_call 128 = .ok (.putfield 111, 3) := by decide +kernel
theorem dMo_call_131 : decode bMo_call 131 = .ok (.aload_n 0, 1) := by decide +kernel
theorem dMo_call_132 : decode bMo_call 132 = .ok (.getfield 19, 3) := by decide +kernel
theorem dMo_call_135 : decode bMo_call 135 = .ok (.iload 7, 2) := by decide +kernel
theorem dMo_call_137 : decode bMo_call 137 = .ok (.iload_n 1, 1) := by decide +kernel
theorem dMo_call_138 : decode bMo_call 138 = .ok (.iastore, 1) := by decide +kernel
theorem dMo_call_139 : decode bMo_call 139 = .ok (.aload_n 0, 1) := by decide +kernel
theorem dMo_call_140 : decode bMo_call 140 = .ok (.getfield 22, 3) := by decide +kernel
theorem dMo_call_143 : decode bMo_call 143 = .ok (.iload 7, 2) := by decide +kernel
theorem dMo_call_145 : decode bMo_call 145 = .ok (.iload_n 2, 1) := by decide +kernel
theorem dMo_call_146 : decode bMo_call 146 = .ok (.iastore, 1) := by decide +kernel
theorem dMo_call_147 : decode bMo_call 147 = .ok (.aload_n 0, 1) := by decide +kernel
theorem dMo_call_148 : decode bMo_call 148 = .ok (.getfield 25, 3) := by decide +kernel
theorem dMo_call_151 : decode bMo_call 151 = .ok (.iload 7, 2) := by decide +kernel
theorem dMo_call_153 : decode bMo_call 153 = .ok (.iload_n 3, 1) := by decide +kernel
theorem dMo_call_154 : decode bMo_call 154 = .ok (.iastore, 1) := by decide +kernel
theorem dMo_call_155 : decode bMo_call 155 = .ok (.aload_n 0, 1) := by decide +kernel
theorem dMo_call_156 : decode bMo_call 156 = .ok (.getfield 28, 3) := by decide +kernel
theorem dMo_call_159 : decode bMo_call 159 = .ok (.iload 7, 2) := by decide +kernel
theorem dMo_call_161 : decode bMo_call 161 = .ok (.iload 4, 2) := by decide +kernel
theorem dMo_call_163 : decode bMo_call 163 = .ok (.iastore, 1) := by decide +kernel
theorem dMo_call_164 : decode bMo_call 164 = .ok (.aload_n 0, 1) := by decide +kernel
theorem dMo_call_165 : decode bMo_call 165 = .ok (.getfield 31, 3) := by decide +kernel
theorem dMo_call_168 : decode bMo_call 168 = .ok (.iload 7, 2) := by decide +kernel
theorem dMo_call_170 : decode bMo_call 170 = .ok (.iload 5, 2) := by decide +kernel
theorem dMo_call_172 : decode bMo_call 172 = .ok (.iastore, 1) := by decide +kernel
theorem dMo_call_173 : decode bMo_call 173 = .ok (.aload_n 0, 1) := by decide +kernel
theorem dMo_call_174 : decode bMo_call 174 = .ok (.getfield 37, 3) := by decide +kernel
theorem dMo_call_177 : decode bMo_call 177 = .ok (.iload 7, 2) := by decide +kernel
theorem dMo_call_179 : decode bMo_call 179 = .ok (.aload_n 0, 1) := by decide +kernel
theorem dMo_call_180 : decode bMo_call 180 = .ok (.getfield 114, 3) := by decide +kernel
theorem dMo_call_183 : decode bMo_call 183 = .ok (.iastore, 1) := by decide +kernel
theorem dMo_call_184 : decode bMo_call 184 = .ok (.aload_n 0, 1) := by decide +kernel
theorem dMo_call_185 : decode bMo_call 185 = .ok (.getfield 40, 3) := by decide +kernel
theorem dMo_call_188 : decode bMo_call 188 = .ok (.iload 7, 2) := by decide +kernel
theorem dMo_call_190 : decode bMo_call 190 = .ok (.iconst 0, 1) := by decide +kernel
theorem dMo_call_191 : decode bMo_call 191 = .ok (.iastore, 1) := by decide +kernel
theorem dMo_call_192 : decode bMo_call 192 = .ok (.aload_n 0, 1) := by decide +kernel
theorem dMo_call_193 : decode bMo_call 193 = .ok (.getfield 16, 3) := by decide +kernel
theorem dMo_call_196 : decode bMo_call 196 = .ok (.bipush 16, 2) := by decide +kernel
theorem dMo_call_198 : decode bMo_call 198 = .ok (.iload_n 2, 1) := by decide +kernel
theorem dMo_call_199 : decode bMo_call 199 = .ok (.imul, 1) := by decide +kernel
theorem dMo_call_200 : decode bMo_call 200 = .ok (.aload_n 0, 1) := by decide +kernel
theorem dMo_call_201 : decode bMo_call 201 = .ok (.getfield 13, 3) := by decide +kernel
theorem dMo_call_204 : decode bMo_call 204 = .ok (.iload_n 2, 1) := by decide +kernel
theorem dMo_call_205 : decode bMo_call 205 = .ok (.iaload, 1) := by decide +kernel
theorem dMo_call_206 : decode bMo_call 206 = .ok (.iadd, 1) := by decide +kernel
theorem dMo_call_207 : decode bMo_call 207 = .ok (.iload 7, 2) := by decide +kernel
theorem dMo_call_209 : decode bMo_call 209 = .ok (.iastore, 1) := by decide +kernel
theorem dMo_call_210 : decode bMo_call 210 = .ok (.aload_n 0, 1) := by decide +kernel
theorem dMo_call_211 : decode bMo_call 211 = .ok (.getfield 13, 3) := by decide +kernel
theorem dMo_call_214 : decode bMo_call 214 = .ok (.iload_n 2, 1) := by decide +kernel
theorem dMo_call_215 : decode bMo_call 215 = .ok (.dup2, 1) := by decide +kernel
theorem dMo_call_216 : decode bMo_call 216 = .ok (.iaload, 1) := by decide +kernel
theorem dMo_call_217 : decode bMo_call 217 = .ok (.iconst 1, 1) := by decide +kernel
theorem dMo_call_218 : decode bMo_call 218 = .ok (.iadd, 1) := by decide +kernel
theorem dMo_call_219 : decode bMo_call 219 = .ok (.iastore, 1) := by decide +kernel
theorem dMo_call_220 : decode bMo_call 220 = .ok (.aload_n 0, 1) := by decide +kernel
theorem dMo_call_221 : decode bMo_call 221 = .ok (.getfield 43, 3) := by decide +kernel
theorem dMo_call_224 : decode bMo_call 224 = .ok (.iload_n 1, 1) := by decide +kernel
theorem dMo_call_225 : decode bMo_call 225 = .ok (.iload 7, 2) := by decide +kernel
theorem dMo_call_227 : decode bMo_call 227 = .ok (.iastore, 1) := by decide +kernel
theorem dMo_call_228 : decode bMo_call 228 = .ok (.aload_n 0, 1) := by decide +kernel
theorem dMo_call_229 : decode bMo_call 229 = .ok (.invokevirtual 97, 3) := by decide +kernel
theorem dMo_call_232 : decode bMo_call 232 = .ok (.iload 7, 2) := by decide +kernel
theorem dMo_call_234 : decode bMo_call 234 = .ok (.ireturn, 1) := by decide +kernel
end
section
theorem dMo_noObject_0 : decode bMo_noObject 0 = .ok (.iload_n 1, 1) := by decide +kernel
theorem dMo_noObject_1 : decode bMo_noObject 1 = .ok (.ifCond .lt 11, 3) := by decide +kernel
theorem dMo_noObject_4 : decode bMo_noObject 4 = .ok (.iload_n 1, 1) := by decide +kernel
theorem dMo_noObject_5 : decode bMo_noObject 5 = .ok (.aload_n 0, 1) := by decide +kernel
theorem dMo_noObject_6 : decode bMo_noObject 6 = .ok (.getfield 104, 3) := by decide +kernel
theorem dMo_noObject_9 : decode bMo_noObject 9 = .ok (.if_icmp .lt 7, 3) := by decide +kernel
theorem dMo_noObject_12 : decode bMo_noObject 12 = .ok (.iconst 1, 1) := by decide +kernel
theorem dMo_noObject_13 : decode bMo_noObject 13 = .ok (.goto 4, 3) := by decide +kernel
theorem dMo_noObject_16 : decode bMo_noObject 16 = .ok (.iconst 0, 1) := by decide +kernel
theorem dMo_noObject_17 : decode bMo_noObject 17 = .ok (.ireturn, 1) := by decide +kernel
theorem dMo_back_0 : decode bMo_back 0 = .ok (.aload_n 0, 1) := by decide +kernel
theorem dMo_back_1 : decode bMo_back 1 = .ok (.iload_n 1, 1) := by decide +kernel
theorem dMo_back_2 : decode bMo_back 2 = .ok (.invokevirtual 117, 3) := by decide +kernel
theorem dMo_back_5 : decode bMo_back 5 = .ok (.ifCond .eq 4, 3) := by decide +kernel
theorem dMo_back_8 : decode bMo_back 8 = .ok (.return_, 1) := by decide +kernel
theorem dMo_back_9 : decode bMo_back 9 = .ok (.aload_n 0, 1) := by decide +kernel
theorem dMo_back_10 : decode bMo_back 10 = .ok (.dup, 1) := by decide +kernel
theorem dMo_back_11 : decode bMo_back 11 = .ok (.getfield 114, 3) := by decide +kernel
theorem dMo_back_14 : decode bMo_back 14 = .ok (.iconst 1, 1) := by decide +kernel
theorem dMo_back_15 : decode bMo_back 15 = .ok (.iadd, 1) := by decide +kernel
theorem dMo_back_16 : decode bMo_back 16 = .ok (.putfield 114, 3) := by decide +kernel
theorem dMo_back_19 : decode bMo_back 19 = .ok (.aload_n 0, 1) := by decide +kernel
theorem dMo_back_20 : decode bMo_back 20 = .ok (.getfield 34, 3) := by decide +kernel
theorem dMo_back_23 : decode bMo_back 23 = .ok (.aload_n 0, 1) := by decide +kernel
theorem dMo_back_24 : decode bMo_back 24 = .ok (.getfield 43, 3) := by decide +kernel
theorem dMo_back_27 : decode bMo_back 27 = .ok (.iload_n 1, 1) := by decide +kernel
theorem dMo_back_28 : decode bMo_back 28 = .ok (.iaload, 1) := by decide +kernel
theorem dMo_back_29 : decode bMo_back 29 = .ok (.iload_n 2, 1) := by decide +kernel
theorem dMo_back_30 : decode bMo_back 30 = .ok (.iastore, 1) := by decide +kernel
theorem dMo_back_31 : decode bMo_back 31 = .ok (.aload_n 0, 1) := by decide +kernel
theorem dMo_back_32 : decode bMo_back 32 = .ok (.getfield 40, 3) := by decide +kernel
theorem dMo_back_35 : decode bMo_back 35 = .ok (.aload_n 0, 1) := by decide +kernel
theorem dMo_back_36 : decode bMo_back 36 = .ok (.getfield 43, 3) := by decide +kernel
theorem dMo_back_39 : decode bMo_back 39 = .ok (.iload_n 1, 1) := by decide +kernel
theorem dMo_back_40 : decode bMo_back 40 = .ok (.iaload, 1) := by decide +kernel
theorem dMo_back_41 : decode bMo_back 41 = .ok (.aload_n 0, 1) := by decide +kernel
theorem dMo_back_42 : decode bMo_back 42 = .ok (.getfield 114, 3) := by decide +kernel
theorem dMo_back_45 : decode bMo_back 45 = .ok (.iastore, 1) := by decide +kernel
theorem dMo_back_46 : decode bMo_back 46 = .ok (.aload_n 0, 1) := by decide +kernel
theorem dMo_back_47 : decode bMo_back 47 = .ok (.getfield 43, 3) := by decide +kernel
theorem dMo_back_50 : decode bMo_back 50 = .ok (.iload_n 1, 1) := by decide +kernel
theorem dMo_back_51 : decode bMo_back 51 = .ok (.iconst (-1), 1) := by decide +kernel
theorem dMo_back_52 : decode bMo_back 52 = .ok (.iastore, 1) := by decide +kernel
theorem dMo_back_53 : decode bMo_back 53 = .ok (.aload_n 0, 1) := by decide +kernel
theorem dMo_back_54 : decode bMo_back 54 = .ok (.invokevirtual 97, 3) := by decide +kernel
theorem dMo_back_57 : decode bMo_back 57 = .ok (.return_, 1) := by decide +kernel
theorem dMo_isIdle_0 : decode bMo_isIdle 0 = .ok (.aload_n 0, 1) := by decide +kernel
theorem dMo_isIdle_1 : decode bMo_isIdle 1 = .ok (.iload_n 1, 1) := by decide +kernel
theorem dMo_isIdle_2 : decode bMo_isIdle 2 = .ok (.ifCond .lt 9, 3) := by decide +kernel
theorem dMo_isIdle_5 : decode bMo_isIdle 5 = .ok (.iload_n 1, 1) := by decide +kernel
theorem dMo_isIdle_6 : decode bMo_isIdle 6 = .ok (.bipush 7, 2) := by decide +kernel
theorem dMo_isIdle_8 : decode bMo_isIdle 8 = .ok (.if_icmp .le 7, 3) := by decide +kernel
theorem dMo_isIdle_11 : decode bMo_isIdle 11 = .ok (.iconst 1, 1) := by decide +kernel
theorem dMo_isIdle_12 : decode bMo_isIdle 12 = .ok (.goto 17, 3) := by decide +kernel
theorem dMo_isIdle_15 : decode bMo_isIdle 15 = .ok (.aload_n 0, 1) := by decide +kernel
theorem dMo_isIdle_16 : decode bMo_isIdle 16 = .ok (.getfield 43, 3) := by decide +kernel
theorem dMo_isIdle_19 : decode bMo_isIdle 19 = .ok (.iload_n 1, 1) := by decide +kernel
theorem dMo_isIdle_20 : decode bMo_isIdle 20 = .ok (.iaload, 1) := by decide +kernel
theorem dMo_isIdle_21 : decode bMo_isIdle 21 = .ok (.ifCond .ge 7, 3) := by decide +kernel
theorem dMo_isIdle_24 : decode bMo_isIdle 24 = .ok (.iconst 2, 1) := by decide +kernel
theorem dMo_isIdle_25 : decode bMo_isIdle 25 = .ok (.goto 4, 3) := by decide +kernel
theorem dMo_isIdle_28 : decode bMo_isIdle 28 = .ok (.iconst 0, 1) := by decide +kernel
theorem dMo_isIdle_29 : decode bMo_isIdle 29 = .ok (.putfield 93, 3) := by decide +kernel
theorem dMo_isIdle_32 : decode bMo_isIdle 32 = .ok (.aload_n 0, 1) := by decide +kernel
theorem dMo_isIdle_33 : decode bMo_isIdle 33 = .ok (.getfield 93, 3) := by decide +kernel
theorem dMo_isIdle_36 : decode bMo_isIdle 36 = .ok (.ifCond .le 7, 3) := by decide +kernel
theorem dMo_isIdle_39 : decode bMo_isIdle 39 = .ok (.iconst 1, 1) := by decide +kernel
theorem dMo_isIdle_40 : decode bMo_isIdle 40 = .ok (.goto 4, 3) := by decide +kernel
theorem dMo_isIdle_43 : decode bMo_isIdle 43 = .ok (.iconst 0, 1) := by decide +kernel
theorem dMo_isIdle_44 : decode bMo_isIdle 44 = .ok (.ireturn, 1) := by decide +kernel
theorem dMo_lose_0 : decode bMo_lose 0 = .ok (.aload_n 0, 1) := by decide +kernel
theorem dMo_lose_1 : decode bMo_lose 1 = .ok (.iload_n 1, 1) := by decide +kernel
theorem dMo_lose_2 : decode bMo_lose 2 = .ok (.invokevirtual 117, 3) := by decide +kernel
theorem dMo_lose_5 : decode bMo_lose 5 = .ok (.ifCond .eq 4, 3) := by decide +kernel
theorem dMo_lose_8 : decode bMo_lose 8 = .ok (.return_, 1) := by decide +kernel
theorem dMo_lose_9 : decode bMo_lose 9 = .ok (.aload_n 0, 1) := by decide +kernel
theorem dMo_lose_10 : decode bMo_lose 10 = .ok (.dup, 1) := by decide +kernel
theorem dMo_lose_11 : decode bMo_lose 11 = .ok (.getfield 114, 3) := by decide +kernel
theorem dMo_lose_14 : decode bMo_lose 14 = .ok (.iconst 1, 1) := by decide +kernel
theorem dMo_lose_15 : decode bMo_lose 15 = .ok (.iadd, 1) := by decide +kernel
theorem dMo_lose_16 : decode bMo_lose 16 = .ok (.putfield 114, 3) := by decide +kernel
theorem dMo_lose_19 : decode bMo_lose 19 = .ok (.aload_n 0, 1) := by decide +kernel
theorem dMo_lose_20 : decode bMo_lose 20 = .ok (.getfield 43, 3) := by decide +kernel
theorem dMo_lose_23 : decode bMo_lose 23 = .ok (.iload_n 1, 1) := by decide +kernel
theorem dMo_lose_24 : decode bMo_lose 24 = .ok (.iconst (-1), 1) := by decide +kernel
theorem dMo_lose_25 : decode bMo_lose 25 = .ok (.iastore, 1) := by decide +kernel
theorem dMo_lose_26 : decode bMo_lose 26 = .ok (.aload_n 0, 1) := by decide +kernel
theorem dMo_lose_27 : decode bMo_lose 27 = .ok (.invokevirtual 97, 3) := by decide +kernel
theorem dMo_lose_30 : decode bMo_lose 30 = .ok (.return_, 1) := by decide +kernel
theorem dMo_clear_0 : decode bMo_clear 0 = .ok (.aload_n 0, 1) := by decide +kernel
theorem dMo_clear_1 : decode bMo_clear 1 = .ok (.iconst 0, 1) := by decide +kernel
theorem dMo_clear_2 : decode bMo_clear 2 = .ok (.putfield 93, 3) := by decide +kernel
theorem dMo_clear_5 : decode bMo_clear 5 = .ok (.aload_n 0, 1) := by decide +kernel
theorem dMo_clear_6 : decode bMo_clear 6 = .ok (.getfield 114, 3) := by decide +kernel
theorem dMo_clear_9 : decode bMo_clear 9 = .ok (.istore_n 1, 1) := by decide +kernel
theorem dMo_clear_10 : decode bMo_clear 10 = .ok (.aload_n 0, 1) := by decide +kernel
theorem dMo_clear_11 : decode bMo_clear 11 = .ok (.iconst 0, 1) := by decide +kernel
theorem dMo_clear_12 : decode bMo_clear 12 = .ok (.putfield 104, 3) := by decide +kernel
theorem dMo_clear_15 : decode bMo_clear 15 = .ok (.aload_n 0, 1) := by decide +kernel
theorem dMo_clear_16 : decode bMo_clear 16 = .ok (.iconst 0, 1) := by decide +kernel
theorem dMo_clear_17 : decode bMo_clear 17 = .ok (.putfield 111, 3) := by decide +kernel
theorem dMo_clear_20 : decode bMo_clear 20 = .ok (.aload_n 0, 1) := by decide +kernel
theorem dMo_clear_21 : decode bMo_clear 21 = .ok (.iconst 0, 1) := by decide +kernel
theorem dMo_clear_22 : decode bMo_clear 22 = .ok (.putfield 114, 3) := by decide +kernel
theorem dMo_clear_25 : decode bMo_clear 25 = .ok (.aload_n 0, 1) := by decide +kernel
theorem dMo_clear_26 : decode bMo_clear 26 = .ok (.invokevirtual 90, 3) := by decide +kernel
theorem dMo_clear_29 : decode bMo_clear 29 = .ok (.iload_n 1, 1) := by decide +kernel
theorem dMo_clear_30 : decode bMo_clear 30 = .ok (.ireturn, 1) := by decide +kernel
theorem dMo_events_0 : decode bMo_events 0 = .ok (.aload_n 0, 1) := by decide +kernel
theorem dMo_events_1 : decode bMo_events 1 = .ok (.iconst 0, 1) := by decide +kernel
theorem dMo_events_2 : decode bMo_events 2 = .ok (.putfield 93, 3) := by decide +kernel
theorem dMo_events_5 : decode bMo_events 5 = .ok (.aload_n 0, 1) := by decide +kernel
theorem dMo_events_6 : decode bMo_events 6 = .ok (.getfield 114, 3) := by decide +kernel
theorem dMo_events_9 : decode bMo_events 9 = .ok (.ireturn, 1) := by decide +kernel
theorem dMo_possibilities_0 : decode bMo_possibilities 0 = .ok (.aload_n 0, 1) := by decide +kernel
theorem dMo_possibilities_1 : decode bMo_possibilities 1 = .ok (.aload_n 0, 1) := by decide +kernel
theorem dMo_possibilities_2 : decode bMo_possibilities 2 = .ok (.iload_n 1, 1) := by decide +kernel
theorem dMo_possibilities_3 : decode bMo_possibilities 3 = .ok (.invokevirtual 107, 3) := by decide +kernel
theorem dMo_possibilities_6 : decode bMo_possibilities 6 = .ok (.ifCond .eq 7, 3) := by decide +kernel
theorem dMo_possibilities_9 : decode bMo_possibilities 9 = .ok (.iconst 1, 1) := by decide +kernel
theorem dMo_possibilities_10 : decode bMo_possibilities 10 = .ok (.goto 4, 3) := by decide +kernel
theorem dMo_possibilities_13 : decode bMo_possibilities 13 = .ok (.iconst 0, 1) := by decide +kernel
theorem dMo_possibilities_14 : decode bMo_possibilities 14 = .ok (.putfield 93, 3) := by decide +kernel
theorem dMo_possibilities_17 : decode bMo_possibilities 17 = .ok (.aload_n 0, 1) := by decide +kernel
theorem dMo_possibilities_18 : decode bMo_possibilities 18 = .ok (.getfield 93, 3) := by decide +kernel
theorem dMo_possibilities_21 : decode bMo_possibilities 21 = .ok (.ifCond .le 5, 3) := by decide +kernel
theorem dMo_possibilities_24 : decode bMo_possibilities 24 = .ok (.iconst 0, 1) := by decide +kernel
theorem dMo_possibilities_25 : decode bMo_possibilities 25 = .ok (.ireturn, 1) := by decide +kernel
theorem dMo_possibilities_26 : decode bMo_possibilities 26 = .ok (.aload_n 0, 1) := by decide +kernel
theorem dMo_possibilities_27 : decode bMo_possibilities 27 = .ok (.iload_n 1, 1) := by decide +kernel
theorem dMo_possibilities_28 : decode bMo_possibilities 28 = .ok (.invokevirtual 195, 3) := by decide +kernel
theorem dMo_possibilities_31 : decode bMo_possibilities 31 = .ok (.aload_n 0, 1) := by decide +kernel
theorem dMo_possibilities_32 : decode bMo_possibilities 32 = .ok (.getfield 63, 3) := by decide +kernel
theorem dMo_possibilities_35 : decode bMo_possibilities 35 = .ok (.iload_n 1, 1) := by decide +kernel
theorem dMo_possibilities_36 : decode bMo_possibilities 36 = .ok (.iaload, 1) := by decide +kernel
theorem dMo_possibilities_37 : decode bMo_possibilities 37 = .ok (.ireturn, 1) := by decide +kernel
theorem dMo_look_0 : decode bMo_look 0 = .ok (.aload_n 0, 1) := by decide +kernel
theorem dMo_look_1 : decode bMo_look 1 = .ok (.getfield 60, 3) := by decide +kernel
theorem dMo_look_4 : decode bMo_look 4 = .ok (.iload_n 1, 1) := by decide +kernel
theorem dMo_look_5 : decode bMo_look 5 = .ok (.baload, 1) := by decide +kernel
theorem dMo_look_6 : decode bMo_look 6 = .ok (.ifCond .eq 4, 3) := by decide +kernel
theorem dMo_look_9 : decode bMo_look 9 = .ok (.return_, 1) := by decide +kernel
theorem dMo_look_10 : decode bMo_look 10 = .ok (.sipush 2001, 3) := by decide +kernel
theorem dMo_look_13 : decode bMo_look 13 = .ok (.iload_n 1, 1) := by decide +kernel
theorem dMo_look_14 : decode bMo_look 14 = .ok (.imul, 1) := by decide +kernel
theorem dMo_look_15 : decode bMo_look 15 = .ok (.istore_n 2, 1) := by decide +kernel
theorem dMo_look_16 : decode bMo_look 16 = .ok (.aload_n 0, 1) := by decide +kernel
theorem dMo_look_17 : decode bMo_look 17 = .ok (.iload_n 1, 1) := by decide +kernel
theorem dMo_look_18 : decode bMo_look 18 = .ok (.iload_n 2, 1) := by decide +kernel
theorem dMo_look_19 : decode bMo_look 19 = .ok (.aload_n 0, 1) := by decide +kernel
theorem dMo_look_20 : decode bMo_look 20 = .ok (.getfield 114, 3) := by decide +kernel
theorem dMo_look_23 : decode bMo_look 23 = .ok (.iconst 0, 1) := by decide +kernel
theorem dMo_look_24 : decode bMo_look 24 = .ok (.invokevirtual 185, 3) := by decide +kernel
theorem dMo_look_27 : decode bMo_look 27 = .ok (.istore_n 3, 1) := by decide +kernel
theorem dMo_look_28 : decode bMo_look 28 = .ok (.aload_n 0, 1) := by decide +kernel
theorem dMo_look_29 : decode bMo_look 29 = .ok (.getfield 60, 3) := by decide +kernel
theorem dMo_look_32 : decode bMo_look 32 = .ok (.iload_n 1, 1) := by decide +kernel
theorem dMo_look_33 : decode bMo_look 33 = .ok (.iconst 1, 1) := by decide +kernel
theorem dMo_look_34 : decode bMo_look 34 = .ok (.bastore, 1) := by decide +kernel
theorem dMo_look_35 : decode bMo_look 35 = .ok (.aload_n 0, 1) := by decide +kernel
theorem dMo_look_36 : decode bMo_look 36 = .ok (.getfield 63, 3) := by decide +kernel
theorem dMo_look_39 : decode bMo_look 39 = .ok (.iload_n 1, 1) := by decide +kernel
theorem dMo_look_40 : decode bMo_look 40 = .ok (.iload_n 3, 1) := by decide +kernel
theorem dMo_look_41 : decode bMo_look 41 = .ok (.iastore, 1) := by decide +kernel
theorem dMo_look_42 : decode bMo_look 42 = .ok (.aload_n 0, 1) := by decide +kernel
theorem dMo_look_43 : decode bMo_look 43 = .ok (.getfield 66, 3) := by decide +kernel
theorem dMo_look_46 : decode bMo_look 46 = .ok (.iload_n 1, 1) := by decide +kernel
theorem dMo_look_47 : decode bMo_look 47 = .ok (.aload_n 0, 1) := by decide +kernel
theorem dMo_look_48 : decode bMo_look 48 = .ok (.iload_n 1, 1) := by decide +kernel
theorem dMo_look_49 : decode bMo_look 49 = .ok (.iload_n 2, 1) := by decide +kernel
theorem dMo_look_50 : decode bMo_look 50 = .ok (.iload_n 3, 1) := by decide +kernel
theorem dMo_look_51 : decode bMo_look 51 = .ok (.aload_n 0, 1) := by decide +kernel
theorem dMo_look_52 : decode bMo_look 52 = .ok (.getfield 114, 3) := by decide +kernel
theorem dMo_look_55 : decode bMo_look 55 = .ok (.invokevirtual 189, 3) := by decide +kernel
theorem dMo_look_58 : decode bMo_look 58 = .ok (.iastore, 1) := by decide +kernel
theorem dMo_look_59 : decode bMo_look 59 = .ok (.aload_n 0, 1) := by decide +kernel
theorem dMo_look_60 : decode bMo_look 60 = .ok (.getfield 69, 3) := by decide +kernel
theorem dMo_look_63 : decode bMo_look 63 = .ok (.iload_n 1, 1) := by decide +kernel
theorem dMo_look_64 : decode bMo_look 64 = .ok (.iload_n 3, 1) := by decide +kernel
theorem dMo_look_65 : decode bMo_look 65 = .ok (.bipush (-2), 2) := by decide +kernel
theorem dMo_look_67 : decode bMo_look 67 = .ok (.if_icmp .ne 9, 3) := by decide +kernel
theorem dMo_look_70 : decode bMo_look 70 = .ok (.ldc2_w 193, 3) := by decide +kernel
theorem dMo_look_73 : decode bMo_look 73 = .ok (.goto 4, 3) := by decide +kernel
theorem dMo_look_76 : decode bMo_look 76 = .ok (.lconst 0, 1) := by decide +kernel
theorem dMo_look_77 : decode bMo_look 77 = .ok (.lastore, 1) := by decide +kernel
theorem dMo_look_78 : decode bMo_look 78 = .ok (.aload_n 0, 1) := by decide +kernel
theorem dMo_look_79 : decode bMo_look 79 = .ok (.getfield 72, 3) := by decide +kernel
theorem dMo_look_82 : decode bMo_look 82 = .ok (.iload_n 1, 1) := by decide +kernel
theorem dMo_look_83 : decode bMo_look 83 = .ok (.iload_n 3, 1) := by decide +kernel
theorem dMo_look_84 : decode bMo_look 84 = .ok (.bipush (-2), 2) := by decide +kernel
theorem dMo_look_86 : decode bMo_look 86 = .ok (.if_icmp .ne 8, 3) := by decide +kernel
theorem dMo_look_89 : decode bMo_look 89 = .ok (.bipush (-2), 2) := by decide +kernel
theorem dMo_look_91 : decode bMo_look 91 = .ok (.goto 4, 3) := by decide +kernel
theorem dMo_look_94 : decode bMo_look 94 = .ok (.iconst 0, 1) := by decide +kernel
theorem dMo_look_95 : decode bMo_look 95 = .ok (.iastore, 1) := by decide +kernel
theorem dMo_look_96 : decode bMo_look 96 = .ok (.iconst 0, 1) := by decide +kernel
theorem dMo_look_97 : decode bMo_look 97 = .ok (.istore 4, 2) := by decide +kernel
theorem dMo_look_99 : decode bMo_look 99 = .ok (.iload 4, 2) := by decide +kernel
theorem dMo_look_101 : decode bMo_look 101 = .ok (.iload_n 3, 1) := by decide +kernel
theorem dMo_look_102 : decode bMo_look 102 = .ok (.if_icmp .ge 156, 3) := by decide +kernel
theorem dMo_look_105 : decode bMo_look 105 = .ok (.aload_n 0, 1) := by decide +kernel
theorem dMo_look_106 : decode bMo_look 106 = .ok (.iload_n 1, 1) := by decide +kernel
theorem dMo_look_107 : decode bMo_look 107 = .ok (.iload_n 2, 1) := by decide +kernel
theorem dMo_look_108 : decode bMo_look 108 = .ok (.iload 4, 2) := by decide +kernel
theorem dMo_look_110 : decode bMo_look 110 = .ok (.iadd, 1) := by decide +kernel
theorem dMo_look_111 : decode bMo_look 111 = .ok (.aload_n 0, 1) := by decide +kernel
theorem dMo_look_112 : decode bMo_look 112 = .ok (.getfield 114, 3) := by decide +kernel
theorem dMo_look_115 : decode bMo_look 115 = .ok (.invokevirtual 181, 3) := by decide +kernel
theorem dMo_look_118 : decode bMo_look 118 = .ok (.ifCond .eq 134, 3) := by decide +kernel
theorem dMo_look_121 : decode bMo_look 121 = .ok (.aload_n 0, 1) := by decide +kernel
theorem dMo_look_122 : decode bMo_look 122 = .ok (.getfield 69, 3) := by decide +kernel
theorem dMo_look_125 : decode bMo_look 125 = .ok (.iload_n 1, 1) := by decide +kernel
theorem dMo_look_126 : decode bMo_look 126 = .ok (.dup2, 1) := by decide +kernel
theorem dMo_look_127 : decode bMo_look 127 = .ok (.laload, 1) := by decide +kernel
theorem dMo_look_128 : decode bMo_look 128 = .ok (.aload_n 0, 1) := by decide +kernel
theorem dMo_look_129 : decode bMo_look 129 = .ok (.getfield 57, 3) := by decide +kernel
theorem dMo_look_132 : decode bMo_look 132 = .ok (.iload 4, 2) := by decide +kernel
theorem dMo_look_134 : decode bMo_look 134 = .ok (.laload, 1) := by decide +kernel
theorem dMo_look_135 : decode bMo_look 135 = .ok (.ladd, 1) := by decide +kernel
theorem dMo_look_136 : decode bMo_look 136 = .ok (.lastore, 1) := by decide +kernel
theorem dMo_look_137 : decode bMo_look 137 = .ok (.iconst 0, 1) := by decide +kernel
theorem dMo_look_138 : decode bMo_look 138 = .ok (.istore 5, 2) := by decide +kernel
theorem dMo_look_140 : decode bMo_look 140 = .ok (.iconst 0, 1) := by decide +kernel
theorem dMo_look_141 : decode bMo_look 141 = .ok (.istore 6, 2) := by decide +kernel
theorem dMo_look_143 : decode bMo_look 143 = .ok (.iload 6, 2) := by decide +kernel
theorem dMo_look_145 : decode bMo_look 145 = .ok (.iload 4, 2) := by decide +kernel
theorem dMo_look_147 : decode bMo_look 147 = .ok (.if_icmp .ge 86, 3) := by decide +kernel
theorem dMo_look_150 : decode bMo_look 150 = .ok (.iload 5, 2) := by decide +kernel
theorem dMo_look_152 : decode bMo_look 152 = .ok (.ifCond .ne 81, 3) := by decide +kernel
theorem dMo_look_155 : decode bMo_look 155 = .ok (.aload_n 0, 1) := by decide +kernel
theorem dMo_look_156 : decode bMo_look 156 = .ok (.getfield 46, 3) := by decide +kernel
theorem dMo_look_159 : decode bMo_look 159 = .ok (.iload_n 2, 1) := by decide +kernel
theorem dMo_look_160 : decode bMo_look 160 = .ok (.iload 6, 2) := by decide +kernel
theorem dMo_look_162 : decode bMo_look 162 = .ok (.iadd, 1) := by decide +kernel
theorem dMo_look_163 : decode bMo_look 163 = .ok (.iaload, 1) := by decide +kernel
theorem dMo_look_164 : decode bMo_look 164 = .ok (.bipush 16, 2) := by decide +kernel
theorem dMo_look_166 : decode bMo_look 166 = .ok (.ishr, 1) := by decide +kernel
theorem dMo_look_167 : decode bMo_look 167 = .ok (.aload_n 0, 1) := by decide +kernel
theorem dMo_look_168 : decode bMo_look 168 = .ok (.getfield 46, 3) := by decide +kernel
theorem dMo_look_171 : decode bMo_look 171 = .ok (.iload_n 2, 1) := by decide +kernel
theorem dMo_look_172 : decode bMo_look 172 = .ok (.iload 4, 2) := by decide +kernel
theorem dMo_look_174 : decode bMo_look 174 = .ok (.iadd, 1) := by decide +kernel
theorem dMo_look_175 : decode bMo_look 175 = .ok (.iaload, 1) := by decide +kernel
theorem dMo_look_176 : decode bMo_look 176 = .ok (.bipush 16, 2) := by decide +kernel
theorem dMo_look_178 : decode bMo_look 178 = .ok (.ishr, 1) := by decide +kernel
theorem dMo_look_179 : decode bMo_look 179 = .ok (.if_icmp .ne 45, 3) := by decide +kernel
theorem dMo_look_182 : decode bMo_look 182 = .ok (.aload_n 0, 1) := by decide +kernel
theorem dMo_look_183 : decode bMo_look 183 = .ok (.getfield 49, 3) := by decide +kernel
theorem dMo_look_186 : decode bMo_look 186 = .ok (.iload_n 2, 1) := by decide +kernel
theorem dMo_look_187 : decode bMo_look 187 = .ok (.iload 6, 2) := by decide +kernel
theorem dMo_look_189 : decode bMo_look 189 = .ok (.iadd, 1) := by decide +kernel
theorem dMo_look_190 : decode bMo_look 190 = .ok (.laload, 1) := by decide +kernel
theorem dMo_look_191 : decode bMo_look 191 = .ok (.aload_n 0, 1) := by decide +kernel
theorem dMo_look_192 : decode bMo_look 192 = .ok (.getfield 49, 3) := by decide +kernel
theorem dMo_look_195 : decode bMo_look 195 = .ok (.iload_n 2, 1) := by decide +kernel
theorem dMo_look_196 : decode bMo_look 196 = .ok (.iload 4, 2) := by decide +kernel
theorem dMo_look_198 : decode bMo_look 198 = .ok (.iadd, 1) := by decide +kernel
theorem dMo_look_199 : decode bMo_look 199 = .ok (.laload, 1) := by decide +kernel
theorem dMo_look_200 : decode bMo_look 200 = .ok (.lcmp, 1) := by decide +kernel
theorem dMo_look_201 : decode bMo_look 201 = .ok (.ifCond .ne 23, 3) := by decide +kernel
theorem dMo_look_204 : decode bMo_look 204 = .ok (.aload_n 0, 1) := by decide +kernel
theorem dMo_look_205 : decode bMo_look 205 = .ok (.iload_n 1, 1) := by decide +kernel
theorem dMo_look_206 : decode bMo_look 206 = .ok (.iload_n 2, 1) := by decide +kernel
theorem dMo_look_207 : decode bMo_look 207 = .ok (.iload 6, 2) := by decide +kernel
theorem dMo_look_209 : decode bMo_look 209 = .ok (.iadd, 1) := by decide +kernel
theorem dMo_look_210 : decode bMo_look 210 = .ok (.aload_n 0, 1) := by decide +kernel
theorem dMo_look_211 : decode bMo_look 211 = .ok (.getfield 114, 3) := by decide +kernel
theorem dMo_look_214 : decode bMo_look 214 = .ok (.invokevirtual 181, 3) := by decide +kernel
theorem dMo_look_217 : decode bMo_look 217 = .ok (.ifCond .eq 7, 3) := by decide +kernel
theorem dMo_look_220 : decode bMo_look 220 = .ok (.iconst 1, 1) := by decide +kernel
theorem dMo_look_221 : decode bMo_look 221 = .ok (.goto 4, 3) := by decide +kernel
theorem dMo_look_224 : decode bMo_look 224 = .ok (.iconst 0, 1) := by decide +kernel
theorem dMo_look_225 : decode bMo_look 225 = .ok (.istore 5, 2) := by decide +kernel
theorem dMo_look_227 : decode bMo_look 227 = .ok (.iinc 6 1, 3) := by decide +kernel
theorem dMo_look_230 : decode bMo_look 230 = .ok (.goto (-87), 3) := by decide +kernel
theorem dMo_look_233 : decode bMo_look 233 = .ok (.aload_n 0, 1) := by decide +kernel
theorem dMo_look_234 : decode bMo_look 234 = .ok (.getfield 72, 3) := by decide +kernel
theorem dMo_look_237 : decode bMo_look 237 = .ok (.iload_n 1, 1) := by decide +kernel
theorem dMo_look_238 : decode bMo_look 238 = .ok (.dup2, 1) := by decide +kernel
theorem dMo_look_239 : decode bMo_look 239 = .ok (.iaload, 1) := by decide +kernel
theorem dMo_look_240 : decode bMo_look 240 = .ok (.iload 5, 2) := by decide +kernel
theorem dMo_look_242 : decode bMo_look 242 = .ok (.ifCond .eq 7, 3) := by decide +kernel
theorem dMo_look_245 : decode bMo_look 245 = .ok (.iconst 0, 1) := by decide +kernel
theorem dMo_look_246 : decode bMo_look 246 = .ok (.goto 4, 3) := by decide +kernel
theorem dMo_look_249 : decode bMo_look 249 = .ok (.iconst 1, 1) := by decide +kernel
theorem dMo_look_250 : decode bMo_look 250 = .ok (.iadd, 1) := by decide +kernel
theorem dMo_look_251 : decode bMo_look 251 = .ok (.iastore, 1) := by decide +kernel
theorem dMo_look_252 : decode bMo_look 252 = .ok (.iinc 4 1, 3) := by decide +kernel
theorem dMo_look_255 : decode bMo_look 255 = .ok (.goto (-156), 3) := by decide +kernel
theorem dMo_look_258 : decode bMo_look 258 = .ok (.return_, 1) := by decide +kernel
end
section
theorem dMo_gather_0 : decode bMo_gather 0 = .ok (.aload_n 0, 1) := by decide +kernel
theorem dMo_gather_1 : decode bMo_gather 1 = .ok (.getfield 46, 3) := by decide +kernel
theorem dMo_gather_4 : decode bMo_gather 4 = .ok (.iload_n 2, 1) := by decide +kernel
theorem dMo_gather_5 : decode bMo_gather 5 = .ok (.iconst 0, 1) := by decide +kernel
theorem dMo_gather_6 : decode bMo_gather 6 = .ok (.iastore, 1) := by decide +kernel
theorem dMo_gather_7 : decode bMo_gather 7 = .ok (.aload_n 0, 1) := by decide +kernel
theorem dMo_gather_8 : decode bMo_gather 8 = .ok (.getfield 49, 3) := by decide +kernel
theorem dMo_gather_11 : decode bMo_gather 11 = .ok (.iload_n 2, 1) := by decide +kernel
theorem dMo_gather_12 : decode bMo_gather 12 = .ok (.lconst 0, 1) := by decide +kernel
theorem dMo_gather_13 : decode bMo_gather 13 = .ok (.lastore, 1) := by decide +kernel
theorem dMo_gather_14 : decode bMo_gather 14 = .ok (.aload_n 0, 1) := by decide +kernel
theorem dMo_gather_15 : decode bMo_gather 15 = .ok (.getfield 57, 3) := by decide +kernel
theorem dMo_gather_18 : decode bMo_gather 18 = .ok (.iconst 0, 1) := by decide +kernel
theorem dMo_gather_19 : decode bMo_gather 19 = .ok (.lconst 1, 1) := by decide +kernel
theorem dMo_gather_20 : decode bMo_gather 20 = .ok (.lastore, 1) := by decide +kernel
theorem dMo_gather_21 : decode bMo_gather 21 = .ok (.iconst 1, 1) := by decide +kernel
theorem dMo_gather_22 : decode bMo_gather 22 = .ok (.istore 5, 2) := by decide +kernel
theorem dMo_gather_24 : decode bMo_gather 24 = .ok (.iconst 0, 1) := by decide +kernel
theorem dMo_gather_25 : decode bMo_gather 25 = .ok (.istore 6, 2) := by decide +kernel
theorem dMo_gather_27 : decode bMo_gather 27 = .ok (.iload 6, 2) := by decide +kernel
theorem dMo_gather_29 : decode bMo_gather 29 = .ok (.iload 5, 2) := by decide +kernel
theorem dMo_gather_31 : decode bMo_gather 31 = .ok (.if_icmp .ge 163, 3) := by decide +kernel
theorem dMo_gather_34 : decode bMo_gather 34 = .ok (.iconst 0, 1) := by decide +kernel
theorem dMo_gather_35 : decode bMo_gather 35 = .ok (.istore 7, 2) := by decide +kernel
theorem dMo_gather_37 : decode bMo_gather 37 = .ok (.iload 7, 2) := by decide +kernel
theorem dMo_gather_39 : decode bMo_gather 39 = .ok (.aload_n 0, 1) := by decide +kernel
theorem dMo_gather_40 : decode bMo_gather 40 = .ok (.getfield 13, 3) := by decide +kernel
theorem dMo_gather_43 : decode bMo_gather 43 = .ok (.iload_n 1, 1) := by decide +kernel
theorem dMo_gather_44 : decode bMo_gather 44 = .ok (.iaload, 1) := by decide +kernel
theorem dMo_gather_45 : decode bMo_gather 45 = .ok (.if_icmp .ge 143, 3) := by decide +kernel
theorem dMo_gather_48 : decode bMo_gather 48 = .ok (.aload_n 0, 1) := by decide +kernel
theorem dMo_gather_49 : decode bMo_gather 49 = .ok (.iload_n 1, 1) := by decide +kernel
theorem dMo_gather_50 : decode bMo_gather 50 = .ok (.iload 7, 2) := by decide +kernel
theorem dMo_gather_52 : decode bMo_gather 52 = .ok (.iload_n 2, 1) := by decide +kernel
theorem dMo_gather_53 : decode bMo_gather 53 = .ok (.iload 6, 2) := by decide +kernel
theorem dMo_gather_55 : decode bMo_gather 55 = .ok (.iadd, 1) := by decide +kernel
theorem dMo_gather_56 : decode bMo_gather 56 = .ok (.iload_n 3, 1) := by decide +kernel
theorem dMo_gather_57 : decode bMo_gather 57 = .ok (.iload 4, 2) := by decide +kernel
theorem dMo_gather_59 : decode bMo_gather 59 = .ok (.invokevirtual 172, 3) := by decide +kernel
theorem dMo_gather_62 : decode bMo_gather 62 = .ok (.ifCond .eq 120, 3) := by decide +kernel
theorem dMo_gather_65 : decode bMo_gather 65 = .ok (.aload_n 0, 1) := by decide +kernel
theorem dMo_gather_66 : decode bMo_gather 66 = .ok (.getfield 46, 3) := by decide +kernel
theorem dMo_gather_69 : decode bMo_gather 69 = .ok (.iload_n 2, 1) := by decide +kernel
theorem dMo_gather_70 : decode bMo_gather 70 = .ok (.iload 6, 2) := by decide +kernel
theorem dMo_gather_72 : decode bMo_gather 72 = .ok (.iadd, 1) := by decide +kernel
theorem dMo_gather_73 : decode bMo_gather 73 = .ok (.iaload, 1) := by decide +kernel
theorem dMo_gather_74 : decode bMo_gather 74 = .ok (.ldc 176, 2) := by decide +kernel
theorem dMo_gather_76 : decode bMo_gather 76 = .ok (.iand, 1) := by decide +kernel
theorem dMo_gather_77 : decode bMo_gather 77 = .ok (.iconst 1, 1) := by decide +kernel
theorem dMo_gather_78 : decode bMo_gather 78 = .ok (.iload 7, 2) := by decide +kernel
theorem dMo_gather_80 : decode bMo_gather 80 = .ok (.ishl, 1) := by decide +kernel
theorem dMo_gather_81 : decode bMo_gather 81 = .ok (.ior, 1) := by decide +kernel
theorem dMo_gather_82 : decode bMo_gather 82 = .ok (.aload_n 0, 1) := by decide +kernel
theorem dMo_gather_83 : decode bMo_gather 83 = .ok (.getfield 129, 3) := by decide +kernel
theorem dMo_gather_86 : decode bMo_gather 86 = .ok (.bipush 16, 2) := by decide +kernel
theorem dMo_gather_88 : decode bMo_gather 88 = .ok (.ishl, 1) := by decide +kernel
theorem dMo_gather_89 : decode bMo_gather 89 = .ok (.ior, 1) := by decide +kernel
theorem dMo_gather_90 : decode bMo_gather 90 = .ok (.istore 8, 2) := by decide +kernel
theorem dMo_gather_92 : decode bMo_gather 92 = .ok (.aload_n 0, 1) := by decide +kernel
theorem dMo_gather_93 : decode bMo_gather 93 = .ok (.iload_n 2, 1) := by decide +kernel
theorem dMo_gather_94 : decode bMo_gather 94 = .ok (.iload 6, 2) := by decide +kernel
theorem dMo_gather_96 : decode bMo_gather 96 = .ok (.iadd, 1) := by decide +kernel
theorem dMo_gather_97 : decode bMo_gather 97 = .ok (.iconst 1, 1) := by decide +kernel
theorem dMo_gather_98 : decode bMo_gather 98 = .ok (.iadd, 1) := by decide +kernel
theorem dMo_gather_99 : decode bMo_gather 99 = .ok (.iload_n 2, 1) := by decide +kernel
theorem dMo_gather_100 : decode bMo_gather 100 = .ok (.iload 5, 2) := by decide +kernel
theorem dMo_gather_102 : decode bMo_gather 102 = .ok (.iadd, 1) := by decide +kernel
theorem dMo_gather_103 : decode bMo_gather 103 = .ok (.iload 8, 2) := by decide +kernel
theorem dMo_gather_105 : decode bMo_gather 105 = .ok (.invokevirtual 177, 3) := by decide +kernel
theorem dMo_gather_108 : decode bMo_gather 108 = .ok (.iload_n 2, 1) := by decide +kernel
theorem dMo_gather_109 : decode bMo_gather 109 = .ok (.isub, 1) := by decide +kernel
theorem dMo_gather_110 : decode bMo_gather 110 = .ok (.istore 9, 2) := by decide +kernel
theorem dMo_gather_112 : decode bMo_gather 112 = .ok (.iload 9, 2) := by decide +kernel
theorem dMo_gather_114 : decode bMo_gather 114 = .ok (.sipush 2000, 3) := by decide +kernel
theorem dMo_gather_117 : decode bMo_gather 117 = .ok (.if_icmp .ne 6, 3) := by decide +kernel
theorem dMo_gather_120 : decode bMo_gather 120 = .ok (.bipush (-2), 2) := by decide +kernel
theorem dMo_gather_122 : decode bMo_gather 122 = .ok (.ireturn, 1) := by decide +kernel
theorem dMo_gather_123 : decode bMo_gather 123 = .ok (.iload 9, 2) := by decide +kernel
theorem dMo_gather_125 : decode bMo_gather 125 = .ok (.iload 5, 2) := by decide +kernel
theorem dMo_gather_127 : decode bMo_gather 127 = .ok (.if_icmp .ne 38, 3) := by decide +kernel
theorem dMo_gather_130 : decode bMo_gather 130 = .ok (.aload_n 0, 1) := by decide +kernel
theorem dMo_gather_131 : decode bMo_gather 131 = .ok (.getfield 46, 3) := by decide +kernel
theorem dMo_gather_134 : decode bMo_gather 134 = .ok (.iload_n 2, 1) := by decide +kernel
theorem dMo_gather_135 : decode bMo_gather 135 = .ok (.iload 9, 2) := by decide +kernel
theorem dMo_gather_137 : decode bMo_gather 137 = .ok (.iadd, 1) := by decide +kernel
theorem dMo_gather_138 : decode bMo_gather 138 = .ok (.iload 8, 2) := by decide +kernel
theorem dMo_gather_140 : decode bMo_gather 140 = .ok (.iastore, 1) := by decide +kernel
theorem dMo_gather_141 : decode bMo_gather 141 = .ok (.aload_n 0, 1) := by decide +kernel
theorem dMo_gather_142 : decode bMo_gather 142 = .ok (.getfield 49, 3) := by decide +kernel
theorem dMo_gather_145 : decode bMo_gather 145 = .ok (.iload_n 2, 1) := by decide +kernel
theorem dMo_gather_146 : decode bMo_gather 146 = .ok (.iload 9, 2) := by decide +kernel
theorem dMo_gather_148 : decode bMo_gather 148 = .ok (.iadd, 1) := by decide +kernel
theorem dMo_gather_149 : decode bMo_gather 149 = .ok (.aload_n 0, 1) := by decide +kernel
theorem dMo_gather_150 : decode bMo_gather 150 = .ok (.getfield 122, 3) := by decide +kernel
theorem dMo_gather_153 : decode bMo_gather 153 = .ok (.lastore, 1) := by decide +kernel
theorem dMo_gather_154 : decode bMo_gather 154 = .ok (.aload_n 0, 1) := by decide +kernel
theorem dMo_gather_155 : decode bMo_gather 155 = .ok (.getfield 57, 3) := by decide +kernel
theorem dMo_gather_158 : decode bMo_gather 158 = .ok (.iload 9, 2) := by decide +kernel
theorem dMo_gather_160 : decode bMo_gather 160 = .ok (.lconst 0, 1) := by decide +kernel
theorem dMo_gather_161 : decode bMo_gather 161 = .ok (.lastore, 1) := by decide +kernel
theorem dMo_gather_162 : decode bMo_gather 162 = .ok (.iinc 5 1, 3) := by decide +kernel
theorem dMo_gather_165 : decode bMo_gather 165 = .ok (.aload_n 0, 1) := by decide +kernel
theorem dMo_gather_166 : decode bMo_gather 166 = .ok (.getfield 57, 3) := by decide +kernel
theorem dMo_gather_169 : decode bMo_gather 169 = .ok (.iload 9, 2) := by decide +kernel
theorem dMo_gather_171 : decode bMo_gather 171 = .ok (.dup2, 1) := by decide +kernel
theorem dMo_gather_172 : decode bMo_gather 172 = .ok (.laload, 1) := by decide +kernel
theorem dMo_gather_173 : decode bMo_gather 173 = .ok (.aload_n 0, 1) := by decide +kernel
theorem dMo_gather_174 : decode bMo_gather 174 = .ok (.getfield 57, 3) := by decide +kernel
theorem dMo_gather_177 : decode bMo_gather 177 = .ok (.iload 6, 2) := by decide +kernel
theorem dMo_gather_179 : decode bMo_gather 179 = .ok (.laload, 1) := by decide +kernel
theorem dMo_gather_180 : decode bMo_gather 180 = .ok (.ladd, 1) := by decide +kernel
theorem dMo_gather_181 : decode bMo_gather 181 = .ok (.lastore, 1) := by decide +kernel
theorem dMo_gather_182 : decode bMo_gather 182 = .ok (.iinc 7 1, 3) := by decide +kernel
theorem dMo_gather_185 : decode bMo_gather 185 = .ok (.goto (-148), 3) := by decide +kernel
theorem dMo_gather_188 : decode bMo_gather 188 = .ok (.iinc 6 1, 3) := by decide +kernel
theorem dMo_gather_191 : decode bMo_gather 191 = .ok (.goto (-164), 3) := by decide +kernel
theorem dMo_gather_194 : decode bMo_gather 194 = .ok (.iload 5, 2) := by decide +kernel
theorem dMo_gather_196 : decode bMo_gather 196 = .ok (.ireturn, 1) := by decide +kernel
theorem dMo_can_0 : decode bMo_can 0 = .ok (.aload_n 0, 1) := by decide +kernel
theorem dMo_can_1 : decode bMo_can 1 = .ok (.getfield 16, 3) := by decide +kernel
theorem dMo_can_4 : decode bMo_can 4 = .ok (.bipush 16, 2) := by decide +kernel
theorem dMo_can_6 : decode bMo_can 6 = .ok (.iload_n 1, 1) := by decide +kernel
theorem dMo_can_7 : decode bMo_can 7 = .ok (.imul, 1) := by decide +kernel
theorem dMo_can_8 : decode bMo_can 8 = .ok (.iload_n 2, 1) := by decide +kernel
theorem dMo_can_9 : decode bMo_can 9 = .ok (.iadd, 1) := by decide +kernel
theorem dMo_can_10 : decode bMo_can 10 = .ok (.iaload, 1) := by decide +kernel
theorem dMo_can_11 : decode bMo_can 11 = .ok (.istore 6, 2) := by decide +kernel
theorem dMo_can_13 : decode bMo_can 13 = .ok (.aload_n 0, 1) := by decide +kernel
theorem dMo_can_14 : decode bMo_can 14 = .ok (.getfield 46, 3) := by decide +kernel
theorem dMo_can_17 : decode bMo_can 17 = .ok (.iload_n 3, 1) := by decide +kernel
theorem dMo_can_18 : decode bMo_can 18 = .ok (.iaload, 1) := by decide +kernel
theorem dMo_can_19 : decode bMo_can 19 = .ok (.iload_n 2, 1) := by decide +kernel
theorem dMo_can_20 : decode bMo_can 20 = .ok (.ishr, 1) := by decide +kernel
theorem dMo_can_21 : decode bMo_can 21 = .ok (.iconst 1, 1) := by decide +kernel
theorem dMo_can_22 : decode bMo_can 22 = .ok (.iand, 1) := by decide +kernel
theorem dMo_can_23 : decode bMo_can 23 = .ok (.iconst 1, 1) := by decide +kernel
theorem dMo_can_24 : decode bMo_can 24 = .ok (.if_icmp .eq 15, 3) := by decide +kernel
theorem dMo_can_27 : decode bMo_can 27 = .ok (.aload_n 0, 1) := by decide +kernel
theorem dMo_can_28 : decode bMo_can 28 = .ok (.getfield 37, 3) := by decide +kernel
theorem dMo_can_31 : decode bMo_can 31 = .ok (.iload 6, 2) := by decide +kernel
theorem dMo_can_33 : decode bMo_can 33 = .ok (.iaload, 1) := by decide +kernel
theorem dMo_can_34 : decode bMo_can 34 = .ok (.iload 4, 2) := by decide +kernel
theorem dMo_can_36 : decode bMo_can 36 = .ok (.if_icmp .le 5, 3) := by decide +kernel
theorem dMo_can_39 : decode bMo_can 39 = .ok (.iconst 0, 1) := by decide +kernel
theorem dMo_can_40 : decode bMo_can 40 = .ok (.ireturn, 1) := by decide +kernel
theorem dMo_can_41 : decode bMo_can 41 = .ok (.iconst 0, 1) := by decide +kernel
theorem dMo_can_42 : decode bMo_can 42 = .ok (.istore 7, 2) := by decide +kernel
theorem dMo_can_44 : decode bMo_can 44 = .ok (.iload 7, 2) := by decide +kernel
theorem dMo_can_46 : decode bMo_can 46 = .ok (.aload_n 0, 1) := by decide +kernel
theorem dMo_can_47 : decode bMo_can 47 = .ok (.getfield 13, 3) := by decide +kernel
theorem dMo_can_50 : decode bMo_can 50 = .ok (.iload_n 1, 1) := by decide +kernel
theorem dMo_can_51 : decode bMo_can 51 = .ok (.iaload, 1) := by decide +kernel
theorem dMo_can_52 : decode bMo_can 52 = .ok (.if_icmp .ge 56, 3) := by decide +kernel
theorem dMo_can_55 : decode bMo_can 55 = .ok (.aload_n 0, 1) := by decide +kernel
theorem dMo_can_56 : decode bMo_can 56 = .ok (.getfield 46, 3) := by decide +kernel
theorem dMo_can_59 : decode bMo_can 59 = .ok (.iload_n 3, 1) := by decide +kernel
theorem dMo_can_60 : decode bMo_can 60 = .ok (.iaload, 1) := by decide +kernel
theorem dMo_can_61 : decode bMo_can 61 = .ok (.iload 7, 2) := by decide +kernel
theorem dMo_can_63 : decode bMo_can 63 = .ok (.ishr, 1) := by decide +kernel
theorem dMo_can_64 : decode bMo_can 64 = .ok (.iconst 1, 1) := by decide +kernel
theorem dMo_can_65 : decode bMo_can 65 = .ok (.iand, 1) := by decide +kernel
theorem dMo_can_66 : decode bMo_can 66 = .ok (.ifCond .ne 36, 3) := by decide +kernel
theorem dMo_can_69 : decode bMo_can 69 = .ok (.iload 7, 2) := by decide +kernel
theorem dMo_can_71 : decode bMo_can 71 = .ok (.iload_n 2, 1) := by decide +kernel
theorem dMo_can_72 : decode bMo_can 72 = .ok (.if_icmp .eq 30, 3) := by decide +kernel
theorem dMo_can_75 : decode bMo_can 75 = .ok (.aload_n 0, 1) := by decide +kernel
theorem dMo_can_76 : decode bMo_can 76 = .ok (.aload_n 0, 1) := by decide +kernel
theorem dMo_can_77 : decode bMo_can 77 = .ok (.getfield 16, 3) := by decide +kernel
theorem dMo_can_80 : decode bMo_can 80 = .ok (.bipush 16, 2) := by decide +kernel
theorem dMo_can_82 : decode bMo_can 82 = .ok (.iload_n 1, 1) := by decide +kernel
theorem dMo_can_83 : decode bMo_can 83 = .ok (.imul, 1) := by decide +kernel
theorem dMo_can_84 : decode bMo_can 84 = .ok (.iload 7, 2) := by decide +kernel
theorem dMo_can_86 : decode bMo_can 86 = .ok (.iadd, 1) := by decide +kernel
theorem dMo_can_87 : decode bMo_can 87 = .ok (.iaload, 1) := by decide +kernel
theorem dMo_can_88 : decode bMo_can 88 = .ok (.iload 6, 2) := by decide +kernel
theorem dMo_can_90 : decode bMo_can 90 = .ok (.iload 4, 2) := by decide +kernel
theorem dMo_can_92 : decode bMo_can 92 = .ok (.iload 5, 2) := by decide +kernel
theorem dMo_can_94 : decode bMo_can 94 = .ok (.invokevirtual 165, 3) := by decide +kernel
theorem dMo_can_97 : decode bMo_can 97 = .ok (.ifCond .eq 5, 3) := by decide +kernel
theorem dMo_can_100 : decode bMo_can 100 = .ok (.iconst 0, 1) := by decide +kernel
theorem dMo_can_101 : decode bMo_can 101 = .ok (.ireturn, 1) := by decide +kernel
theorem dMo_can_102 : decode bMo_can 102 = .ok (.iinc 7 1, 3) := by decide +kernel
theorem dMo_can_105 : decode bMo_can 105 = .ok (.goto (-61), 3) := by decide +kernel
theorem dMo_can_108 : decode bMo_can 108 = .ok (.aload_n 0, 1) := by decide +kernel
theorem dMo_can_109 : decode bMo_can 109 = .ok (.iload_n 1, 1) := by decide +kernel
theorem dMo_can_110 : decode bMo_can 110 = .ok (.iload_n 2, 1) := by decide +kernel
theorem dMo_can_111 : decode bMo_can 111 = .ok (.iload_n 3, 1) := by decide +kernel
theorem dMo_can_112 : decode bMo_can 112 = .ok (.invokevirtual 169, 3) := by decide +kernel
theorem dMo_can_115 : decode bMo_can 115 = .ok (.aload_n 0, 1) := by decide +kernel
theorem dMo_can_116 : decode bMo_can 116 = .ok (.iload 6, 2) := by decide +kernel
theorem dMo_can_118 : decode bMo_can 118 = .ok (.iload 4, 2) := by decide +kernel
theorem dMo_can_120 : decode bMo_can 120 = .ok (.invokevirtual 161, 3) := by decide +kernel
theorem dMo_can_123 : decode bMo_can 123 = .ok (.ifCond .eq 17, 3) := by decide +kernel
theorem dMo_can_126 : decode bMo_can 126 = .ok (.aload_n 0, 1) := by decide +kernel
theorem dMo_can_127 : decode bMo_can 127 = .ok (.getfield 126, 3) := by decide +kernel
theorem dMo_can_130 : decode bMo_can 130 = .ok (.aload_n 0, 1) := by decide +kernel
theorem dMo_can_131 : decode bMo_can 131 = .ok (.getfield 34, 3) := by decide +kernel
theorem dMo_can_134 : decode bMo_can 134 = .ok (.iload 6, 2) := by decide +kernel
theorem dMo_can_136 : decode bMo_can 136 = .ok (.iaload, 1) := by decide +kernel
theorem dMo_can_137 : decode bMo_can 137 = .ok (.if_icmp .ne 7, 3) := by decide +kernel
theorem dMo_can_140 : decode bMo_can 140 = .ok (.iconst 1, 1) := by decide +kernel
theorem dMo_can_141 : decode bMo_can 141 = .ok (.goto 4, 3) := by decide +kernel
theorem dMo_can_144 : decode bMo_can 144 = .ok (.iconst 0, 1) := by decide +kernel
theorem dMo_can_145 : decode bMo_can 145 = .ok (.ireturn, 1) := by decide +kernel
theorem dMo_isBefore_0 : decode bMo_isBefore 0 = .ok (.iload 4, 2) := by decide +kernel
theorem dMo_isBefore_2 : decode bMo_isBefore 2 = .ok (.ifCond .eq 31, 3) := by decide +kernel
theorem dMo_isBefore_5 : decode bMo_isBefore 5 = .ok (.aload_n 0, 1) := by decide +kernel
theorem dMo_isBefore_6 : decode bMo_isBefore 6 = .ok (.getfield 19, 3) := by decide +kernel
theorem dMo_isBefore_9 : decode bMo_isBefore 9 = .ok (.iload_n 1, 1) := by decide +kernel
theorem dMo_isBefore_10 : decode bMo_isBefore 10 = .ok (.iaload, 1) := by decide +kernel
theorem dMo_isBefore_11 : decode bMo_isBefore 11 = .ok (.aload_n 0, 1) := by decide +kernel
theorem dMo_isBefore_12 : decode bMo_isBefore 12 = .ok (.getfield 19, 3) := by decide +kernel
theorem dMo_isBefore_15 : decode bMo_isBefore 15 = .ok (.iload_n 2, 1) := by decide +kernel
theorem dMo_isBefore_16 : decode bMo_isBefore 16 = .ok (.iaload, 1) := by decide +kernel
theorem dMo_isBefore_17 : decode bMo_isBefore 17 = .ok (.if_icmp .ne 12, 3) := by decide +kernel
theorem dMo_isBefore_20 : decode bMo_isBefore 20 = .ok (.iload_n 1, 1) := by decide +kernel
theorem dMo_isBefore_21 : decode bMo_isBefore 21 = .ok (.iload_n 2, 1) := by decide +kernel
theorem dMo_isBefore_22 : decode bMo_isBefore 22 = .ok (.if_icmp .ge 7, 3) := by decide +kernel
theorem dMo_isBefore_25 : decode bMo_isBefore 25 = .ok (.iconst 1, 1) := by decide +kernel
theorem dMo_isBefore_26 : decode bMo_isBefore 26 = .ok (.goto 36, 3) := by decide +kernel
theorem dMo_isBefore_29 : decode bMo_isBefore 29 = .ok (.iconst 0, 1) := by decide +kernel
theorem dMo_isBefore_30 : decode bMo_isBefore 30 = .ok (.goto 32, 3) := by decide +kernel
theorem dMo_isBefore_33 : decode bMo_isBefore 33 = .ok (.aload_n 0, 1) := by decide +kernel
theorem dMo_isBefore_34 : decode bMo_isBefore 34 = .ok (.iload_n 1, 1) := by decide +kernel
theorem dMo_isBefore_35 : decode bMo_isBefore 35 = .ok (.iload_n 3, 1) := by decide +kernel
theorem dMo_isBefore_36 : decode bMo_isBefore 36 = .ok (.invokevirtual 161, 3) := by decide +kernel
theorem dMo_isBefore_39 : decode bMo_isBefore 39 = .ok (.ifCond .eq 22, 3) := by decide +kernel
theorem dMo_isBefore_42 : decode bMo_isBefore 42 = .ok (.aload_n 0, 1) := by decide +kernel
theorem dMo_isBefore_43 : decode bMo_isBefore 43 = .ok (.getfield 40, 3) := by decide +kernel
theorem dMo_isBefore_46 : decode bMo_isBefore 46 = .ok (.iload_n 1, 1) := by decide +kernel
theorem dMo_isBefore_47 : decode bMo_isBefore 47 = .ok (.iaload, 1) := by decide +kernel
theorem dMo_isBefore_48 : decode bMo_isBefore 48 = .ok (.aload_n 0, 1) := by decide +kernel
theorem dMo_isBefore_49 : decode bMo_isBefore 49 = .ok (.getfield 37, 3) := by decide +kernel
theorem dMo_isBefore_52 : decode bMo_isBefore 52 = .ok (.iload_n 2, 1) := by decide +kernel
theorem dMo_isBefore_53 : decode bMo_isBefore 53 = .ok (.iaload, 1) := by decide +kernel
theorem dMo_isBefore_54 : decode bMo_isBefore 54 = .ok (.if_icmp .ge 7, 3) := by decide +kernel
theorem dMo_isBefore_57 : decode bMo_isBefore 57 = .ok (.iconst 1, 1) := by decide +kernel
theorem dMo_isBefore_58 : decode bMo_isBefore 58 = .ok (.goto 4, 3) := by decide +kernel
theorem dMo_isBefore_61 : decode bMo_isBefore 61 = .ok (.iconst 0, 1) := by decide +kernel
theorem dMo_isBefore_62 : decode bMo_isBefore 62 = .ok (.ireturn, 1) := by decide +kernel
theorem dMo_isBack_0 : decode bMo_isBack 0 = .ok (.aload_n 0, 1) := by decide +kernel
theorem dMo_isBack_1 : decode bMo_isBack 1 = .ok (.getfield 40, 3) := by decide +kernel
theorem dMo_isBack_4 : decode bMo_isBack 4 = .ok (.iload_n 1, 1) := by decide +kernel
theorem dMo_isBack_5 : decode bMo_isBack 5 = .ok (.iaload, 1) := by decide +kernel
theorem dMo_isBack_6 : decode bMo_isBack 6 = .ok (.ifCond .le 17, 3) := by decide +kernel
theorem dMo_isBack_9 : decode bMo_isBack 9 = .ok (.aload_n 0, 1) := by decide +kernel
theorem dMo_isBack_10 : decode bMo_isBack 10 = .ok (.getfield 40, 3) := by decide +kernel
theorem dMo_isBack_13 : decode bMo_isBack 13 = .ok (.iload_n 1, 1) := by decide +kernel
theorem dMo_isBack_14 : decode bMo_isBack 14 = .ok (.iaload, 1) := by decide +kernel
theorem dMo_isBack_15 : decode bMo_isBack 15 = .ok (.iload_n 2, 1) := by decide +kernel
theorem dMo_isBack_16 : decode bMo_isBack 16 = .ok (.if_icmp .gt 7, 3) := by decide +kernel
theorem dMo_isBack_19 : decode bMo_isBack 19 = .ok (.iconst 1, 1) := by decide +kernel
theorem dMo_isBack_20 : decode bMo_isBack 20 = .ok (.goto 4, 3) := by decide +kernel
theorem dMo_isBack_23 : decode bMo_isBack 23 = .ok (.iconst 0, 1) := by decide +kernel
theorem dMo_isBack_24 : decode bMo_isBack 24 = .ok (.ireturn, 1) := by decide +kernel
end
section
theorem dMo_doIt_0 : decode bMo_doIt 0 = .ok (.aload_n 0, 1) := by decide +kernel
theorem dMo_doIt_1 : decode bMo_doIt 1 = .ok (.aload_n 0, 1) := by decide +kernel
theorem dMo_doIt_2 : decode bMo_doIt 2 = .ok (.getfield 49, 3) := by decide +kernel
theorem dMo_doIt_5 : decode bMo_doIt 5 = .ok (.iload_n 3, 1) := by decide +kernel
theorem dMo_doIt_6 : decode bMo_doIt 6 = .ok (.laload, 1) := by decide +kernel
theorem dMo_doIt_7 : decode bMo_doIt 7 = .ok (.putfield 122, 3) := by decide +kernel
theorem dMo_doIt_10 : decode bMo_doIt 10 = .ok (.aload_n 0, 1) := by decide +kernel
theorem dMo_doIt_11 : decode bMo_doIt 11 = .ok (.aload_n 0, 1) := by decide +kernel
theorem dMo_doIt_12 : decode bMo_doIt 12 = .ok (.getfield 46, 3) := by decide +kernel
theorem dMo_doIt_15 : decode bMo_doIt 15 = .ok (.iload_n 3, 1) := by decide +kernel
theorem dMo_doIt_16 : decode bMo_doIt 16 = .ok (.iaload, 1) := by decide +kernel
theorem dMo_doIt_17 : decode bMo_doIt 17 = .ok (.bipush 16, 2) := by decide +kernel
theorem dMo_doIt_19 : decode bMo_doIt 19 = .ok (.ishr, 1) := by decide +kernel
theorem dMo_doIt_20 : decode bMo_doIt 20 = .ok (.putfield 129, 3) := by decide +kernel
theorem dMo_doIt_23 : decode bMo_doIt 23 = .ok (.aload_n 0, 1) := by decide +kernel
theorem dMo_doIt_24 : decode bMo_doIt 24 = .ok (.getfield 16, 3) := by decide +kernel
theorem dMo_doIt_27 : decode bMo_doIt 27 = .ok (.bipush 16, 2) := by decide +kernel
theorem dMo_doIt_29 : decode bMo_doIt 29 = .ok (.iload_n 1, 1) := by decide +kernel
theorem dMo_doIt_30 : decode bMo_doIt 30 = .ok (.imul, 1) := by decide +kernel
theorem dMo_doIt_31 : decode bMo_doIt 31 = .ok (.iload_n 2, 1) := by decide +kernel
theorem dMo_doIt_32 : decode bMo_doIt 32 = .ok (.iadd, 1) := by decide +kernel
theorem dMo_doIt_33 : decode bMo_doIt 33 = .ok (.iaload, 1) := by decide +kernel
theorem dMo_doIt_34 : decode bMo_doIt 34 = .ok (.istore 4, 2) := by decide +kernel
theorem dMo_doIt_36 : decode bMo_doIt 36 = .ok (.aload_n 0, 1) := by decide +kernel
theorem dMo_doIt_37 : decode bMo_doIt 37 = .ok (.getfield 7, 3) := by decide +kernel
theorem dMo_doIt_40 : decode bMo_doIt 40 = .ok (.iload_n 1, 1) := by decide +kernel
theorem dMo_doIt_41 : decode bMo_doIt 41 = .ok (.iaload, 1) := by decide +kernel
theorem dMo_doIt_42 : decode bMo_doIt 42 = .ok (.ifCond .ne 31, 3) := by decide +kernel
theorem dMo_doIt_45 : decode bMo_doIt 45 = .ok (.aload_n 0, 1) := by decide +kernel
theorem dMo_doIt_46 : decode bMo_doIt 46 = .ok (.aload_n 0, 1) := by decide +kernel
theorem dMo_doIt_47 : decode bMo_doIt 47 = .ok (.getfield 25, 3) := by decide +kernel
theorem dMo_doIt_50 : decode bMo_doIt 50 = .ok (.iload 4, 2) := by decide +kernel
theorem dMo_doIt_52 : decode bMo_doIt 52 = .ok (.iaload, 1) := by decide +kernel
theorem dMo_doIt_53 : decode bMo_doIt 53 = .ok (.aload_n 0, 1) := by decide +kernel
theorem dMo_doIt_54 : decode bMo_doIt 54 = .ok (.getfield 28, 3) := by decide +kernel
theorem dMo_doIt_57 : decode bMo_doIt 57 = .ok (.iload 4, 2) := by decide +kernel
theorem dMo_doIt_59 : decode bMo_doIt 59 = .ok (.iaload, 1) := by decide +kernel
theorem dMo_doIt_60 : decode bMo_doIt 60 = .ok (.aload_n 0, 1) := by decide +kernel
theorem dMo_doIt_61 : decode bMo_doIt 61 = .ok (.getfield 31, 3) := by decide +kernel
theorem dMo_doIt_64 : decode bMo_doIt 64 = .ok (.iload 4, 2) := by decide +kernel
theorem dMo_doIt_66 : decode bMo_doIt 66 = .ok (.iaload, 1) := by decide +kernel
theorem dMo_doIt_67 : decode bMo_doIt 67 = .ok (.invokevirtual 148, 3) := by decide +kernel
theorem dMo_doIt_70 : decode bMo_doIt 70 = .ok (.goto 68, 3) := by decide +kernel
theorem dMo_doIt_73 : decode bMo_doIt 73 = .ok (.aload_n 0, 1) := by decide +kernel
theorem dMo_doIt_74 : decode bMo_doIt 74 = .ok (.getfield 7, 3) := by decide +kernel
theorem dMo_doIt_77 : decode bMo_doIt 77 = .ok (.iload_n 1, 1) := by decide +kernel
theorem dMo_doIt_78 : decode bMo_doIt 78 = .ok (.iaload, 1) := by decide +kernel
theorem dMo_doIt_79 : decode bMo_doIt 79 = .ok (.iconst 3, 1) := by decide +kernel
theorem dMo_doIt_80 : decode bMo_doIt 80 = .ok (.if_icmp .ne 19, 3) := by decide +kernel
theorem dMo_doIt_83 : decode bMo_doIt 83 = .ok (.aload_n 0, 1) := by decide +kernel
theorem dMo_doIt_84 : decode bMo_doIt 84 = .ok (.iload_n 1, 1) := by decide +kernel
theorem dMo_doIt_85 : decode bMo_doIt 85 = .ok (.iload_n 2, 1) := by decide +kernel
theorem dMo_doIt_86 : decode bMo_doIt 86 = .ok (.aload_n 0, 1) := by decide +kernel
theorem dMo_doIt_87 : decode bMo_doIt 87 = .ok (.getfield 25, 3) := by decide +kernel
theorem dMo_doIt_90 : decode bMo_doIt 90 = .ok (.iload 4, 2) := by decide +kernel
theorem dMo_doIt_92 : decode bMo_doIt 92 = .ok (.iaload, 1) := by decide +kernel
theorem dMo_doIt_93 : decode bMo_doIt 93 = .ok (.invokevirtual 152, 3) := by decide +kernel
theorem dMo_doIt_96 : decode bMo_doIt 96 = .ok (.goto 42, 3) := by decide +kernel
theorem dMo_doIt_99 : decode bMo_doIt 99 = .ok (.aload_n 0, 1) := by decide +kernel
theorem dMo_doIt_100 : decode bMo_doIt 100 = .ok (.getfield 7, 3) := by decide +kernel
theorem dMo_doIt_103 : decode bMo_doIt 103 = .ok (.iload_n 1, 1) := by decide +kernel
theorem dMo_doIt_104 : decode bMo_doIt 104 = .ok (.iaload, 1) := by decide +kernel
theorem dMo_doIt_105 : decode bMo_doIt 105 = .ok (.iconst 5, 1) := by decide +kernel
theorem dMo_doIt_106 : decode bMo_doIt 106 = .ok (.if_icmp .ne 19, 3) := by decide +kernel
theorem dMo_doIt_109 : decode bMo_doIt 109 = .ok (.aload_n 0, 1) := by decide +kernel
theorem dMo_doIt_110 : decode bMo_doIt 110 = .ok (.iload_n 1, 1) := by decide +kernel
theorem dMo_doIt_111 : decode bMo_doIt 111 = .ok (.iload_n 2, 1) := by decide +kernel
theorem dMo_doIt_112 : decode bMo_doIt 112 = .ok (.aload_n 0, 1) := by decide +kernel
theorem dMo_doIt_113 : decode bMo_doIt 113 = .ok (.getfield 25, 3) := by decide +kernel
theorem dMo_doIt_116 : decode bMo_doIt 116 = .ok (.iload 4, 2) := by decide +kernel
theorem dMo_doIt_118 : decode bMo_doIt 118 = .ok (.iaload, 1) := by decide +kernel
theorem dMo_doIt_119 : decode bMo_doIt 119 = .ok (.invokevirtual 155, 3) := by decide +kernel
theorem dMo_doIt_122 : decode bMo_doIt 122 = .ok (.goto 16, 3) := by decide +kernel
theorem dMo_doIt_125 : decode bMo_doIt 125 = .ok (.aload_n 0, 1) := by decide +kernel
theorem dMo_doIt_126 : decode bMo_doIt 126 = .ok (.iload_n 1, 1) := by decide +kernel
theorem dMo_doIt_127 : decode bMo_doIt 127 = .ok (.iload_n 2, 1) := by decide +kernel
theorem dMo_doIt_128 : decode bMo_doIt 128 = .ok (.aload_n 0, 1) := by decide +kernel
theorem dMo_doIt_129 : decode bMo_doIt 129 = .ok (.getfield 25, 3) := by decide +kernel
theorem dMo_doIt_132 : decode bMo_doIt 132 = .ok (.iload 4, 2) := by decide +kernel
theorem dMo_doIt_134 : decode bMo_doIt 134 = .ok (.iaload, 1) := by decide +kernel
theorem dMo_doIt_135 : decode bMo_doIt 135 = .ok (.invokevirtual 158, 3) := by decide +kernel
theorem dMo_doIt_138 : decode bMo_doIt 138 = .ok (.return_, 1) := by decide +kernel
theorem dMo_doRegister_0 : decode bMo_doRegister 0 = .ok (.aload_n 0, 1) := by decide +kernel
theorem dMo_doRegister_1 : decode bMo_doRegister 1 = .ok (.getfield 122, 3) := by decide +kernel
theorem dMo_doRegister_4 : decode bMo_doRegister 4 = .ok (.l2i, 1) := by decide +kernel
theorem dMo_doRegister_5 : decode bMo_doRegister 5 = .ok (.istore 4, 2) := by decide +kernel
theorem dMo_doRegister_7 : decode bMo_doRegister 7 = .ok (.aload_n 0, 1) := by decide +kernel
theorem dMo_doRegister_8 : decode bMo_doRegister 8 = .ok (.iload_n 1, 1) := by decide +kernel
theorem dMo_doRegister_9 : decode bMo_doRegister 9 = .ok (.iconst 1, 1) := by decide +kernel
theorem dMo_doRegister_10 : decode bMo_doRegister 10 = .ok (.if_icmp .ne 7, 3) := by decide +kernel
theorem dMo_doRegister_13 : decode bMo_doRegister 13 = .ok (.iconst 0, 1) := by decide +kernel
theorem dMo_doRegister_14 : decode bMo_doRegister 14 = .ok (.goto 24, 3) := by decide +kernel
theorem dMo_doRegister_17 : decode bMo_doRegister 17 = .ok (.iload_n 1, 1) := by decide +kernel
theorem dMo_doRegister_18 : decode bMo_doRegister 18 = .ok (.iconst 3, 1) := by decide +kernel
theorem dMo_doRegister_19 : decode bMo_doRegister 19 = .ok (.if_icmp .ne 17, 3) := by decide +kernel
theorem dMo_doRegister_22 : decode bMo_doRegister 22 = .ok (.iload 4, 2) := by decide +kernel
theorem dMo_doRegister_24 : decode bMo_doRegister 24 = .ok (.iload_n 2, 1) := by decide +kernel
theorem dMo_doRegister_25 : decode bMo_doRegister 25 = .ok (.if_icmp .ne 7, 3) := by decide +kernel
theorem dMo_doRegister_28 : decode bMo_doRegister 28 = .ok (.iconst 1, 1) := by decide +kernel
theorem dMo_doRegister_29 : decode bMo_doRegister 29 = .ok (.goto 9, 3) := by decide +kernel
theorem dMo_doRegister_32 : decode bMo_doRegister 32 = .ok (.iconst 0, 1) := by decide +kernel
theorem dMo_doRegister_33 : decode bMo_doRegister 33 = .ok (.goto 5, 3) := by decide +kernel
theorem dMo_doRegister_36 : decode bMo_doRegister 36 = .ok (.iload 4, 2) := by decide +kernel
theorem dMo_doRegister_38 : decode bMo_doRegister 38 = .ok (.putfield 126, 3) := by decide +kernel
theorem dMo_doRegister_41 : decode bMo_doRegister 41 = .ok (.aload_n 0, 1) := by decide +kernel
theorem dMo_doRegister_42 : decode bMo_doRegister 42 = .ok (.iload_n 1, 1) := by decide +kernel
theorem dMo_doRegister_43 : decode bMo_doRegister 43 = .ok (.iconst 1, 1) := by decide +kernel
theorem dMo_doRegister_44 : decode bMo_doRegister 44 = .ok (.if_icmp .eq 8, 3) := by decide +kernel
theorem dMo_doRegister_47 : decode bMo_doRegister 47 = .ok (.iload_n 1, 1) := by decide +kernel
theorem dMo_doRegister_48 : decode bMo_doRegister 48 = .ok (.iconst 2, 1) := by decide +kernel
theorem dMo_doRegister_49 : decode bMo_doRegister 49 = .ok (.if_icmp .ne 8, 3) := by decide +kernel
theorem dMo_doRegister_52 : decode bMo_doRegister 52 = .ok (.iload_n 2, 1) := by decide +kernel
theorem dMo_doRegister_53 : decode bMo_doRegister 53 = .ok (.i2l, 1) := by decide +kernel
theorem dMo_doRegister_54 : decode bMo_doRegister 54 = .ok (.goto 35, 3) := by decide +kernel
theorem dMo_doRegister_57 : decode bMo_doRegister 57 = .ok (.iload_n 1, 1) := by decide +kernel
theorem dMo_doRegister_58 : decode bMo_doRegister 58 = .ok (.iconst 3, 1) := by decide +kernel
theorem dMo_doRegister_59 : decode bMo_doRegister 59 = .ok (.if_icmp .ne 14, 3) := by decide +kernel
theorem dMo_doRegister_62 : decode bMo_doRegister 62 = .ok (.iload 4, 2) := by decide +kernel
theorem dMo_doRegister_64 : decode bMo_doRegister 64 = .ok (.iload_n 2, 1) := by decide +kernel
theorem dMo_doRegister_65 : decode bMo_doRegister 65 = .ok (.if_icmp .ne 8, 3) := by decide +kernel
theorem dMo_doRegister_68 : decode bMo_doRegister 68 = .ok (.iload_n 3, 1) := by decide +kernel
theorem dMo_doRegister_69 : decode bMo_doRegister 69 = .ok (.i2l, 1) := by decide +kernel
theorem dMo_doRegister_70 : decode bMo_doRegister 70 = .ok (.goto 19, 3) := by decide +kernel
theorem dMo_doRegister_73 : decode bMo_doRegister 73 = .ok (.iload_n 1, 1) := by decide +kernel
theorem dMo_doRegister_74 : decode bMo_doRegister 74 = .ok (.iconst 4, 1) := by decide +kernel
theorem dMo_doRegister_75 : decode bMo_doRegister 75 = .ok (.if_icmp .ne 11, 3) := by decide +kernel
theorem dMo_doRegister_78 : decode bMo_doRegister 78 = .ok (.iload 4, 2) := by decide +kernel
theorem dMo_doRegister_80 : decode bMo_doRegister 80 = .ok (.iload_n 2, 1) := by decide +kernel
theorem dMo_doRegister_81 : decode bMo_doRegister 81 = .ok (.iadd, 1) := by decide +kernel
theorem dMo_doRegister_82 : decode bMo_doRegister 82 = .ok (.i2l, 1) := by decide +kernel
theorem dMo_doRegister_83 : decode bMo_doRegister 83 = .ok (.goto 6, 3) := by decide +kernel
theorem dMo_doRegister_86 : decode bMo_doRegister 86 = .ok (.iload 4, 2) := by decide +kernel
theorem dMo_doRegister_88 : decode bMo_doRegister 88 = .ok (.i2l, 1) := by decide +kernel
theorem dMo_doRegister_89 : decode bMo_doRegister 89 = .ok (.putfield 122, 3) := by decide +kernel
theorem dMo_doRegister_92 : decode bMo_doRegister 92 = .ok (.return_, 1) := by decide +kernel
theorem dMo_doSet_0 : decode bMo_doSet 0 = .ok (.lconst 1, 1) := by decide +kernel
theorem dMo_doSet_1 : decode bMo_doSet 1 = .ok (.aload_n 0, 1) := by decide +kernel
theorem dMo_doSet_2 : decode bMo_doSet 2 = .ok (.iload_n 1, 1) := by decide +kernel
theorem dMo_doSet_3 : decode bMo_doSet 3 = .ok (.iload_n 2, 1) := by decide +kernel
theorem dMo_doSet_4 : decode bMo_doSet 4 = .ok (.invokevirtual 132, 3) := by decide +kernel
theorem dMo_doSet_7 : decode bMo_doSet 7 = .ok (.lshl, 1) := by decide +kernel
theorem dMo_doSet_8 : decode bMo_doSet 8 = .ok (.lstore 4, 2) := by decide +kernel
theorem dMo_doSet_10 : decode bMo_doSet 10 = .ok (.aload_n 0, 1) := by decide +kernel
theorem dMo_doSet_11 : decode bMo_doSet 11 = .ok (.getfield 122, 3) := by decide +kernel
theorem dMo_doSet_14 : decode bMo_doSet 14 = .ok (.lload 4, 2) := by decide +kernel
theorem dMo_doSet_16 : decode bMo_doSet 16 = .ok (.land, 1) := by decide +kernel
theorem dMo_doSet_17 : decode bMo_doSet 17 = .ok (.lconst 0, 1) := by decide +kernel
theorem dMo_doSet_18 : decode bMo_doSet 18 = .ok (.lcmp, 1) := by decide +kernel
theorem dMo_doSet_19 : decode bMo_doSet 19 = .ok (.ifCond .eq 7, 3) := by decide +kernel
theorem dMo_doSet_22 : decode bMo_doSet 22 = .ok (.iconst 1, 1) := by decide +kernel
theorem dMo_doSet_23 : decode bMo_doSet 23 = .ok (.goto 4, 3) := by decide +kernel
theorem dMo_doSet_26 : decode bMo_doSet 26 = .ok (.iconst 0, 1) := by decide +kernel
theorem dMo_doSet_27 : decode bMo_doSet 27 = .ok (.istore 6, 2) := by decide +kernel
theorem dMo_doSet_29 : decode bMo_doSet 29 = .ok (.aload_n 0, 1) := by decide +kernel
theorem dMo_doSet_30 : decode bMo_doSet 30 = .ok (.iload_n 3, 1) := by decide +kernel
theorem dMo_doSet_31 : decode bMo_doSet 31 = .ok (.ifCond .ne 16, 3) := by decide +kernel
theorem dMo_doSet_34 : decode bMo_doSet 34 = .ok (.iload 6, 2) := by decide +kernel
theorem dMo_doSet_36 : decode bMo_doSet 36 = .ok (.ifCond .eq 7, 3) := by decide +kernel
theorem dMo_doSet_39 : decode bMo_doSet 39 = .ok (.iconst 0, 1) := by decide +kernel
theorem dMo_doSet_40 : decode bMo_doSet 40 = .ok (.goto 17, 3) := by decide +kernel
theorem dMo_doSet_43 : decode bMo_doSet 43 = .ok (.iconst 1, 1) := by decide +kernel
theorem dMo_doSet_44 : decode bMo_doSet 44 = .ok (.goto 13, 3) := by decide +kernel
theorem dMo_doSet_47 : decode bMo_doSet 47 = .ok (.iload 6, 2) := by decide +kernel
theorem dMo_doSet_49 : decode bMo_doSet 49 = .ok (.ifCond .eq 7, 3) := by decide +kernel
theorem dMo_doSet_52 : decode bMo_doSet 52 = .ok (.iconst 1, 1) := by decide +kernel
theorem dMo_doSet_53 : decode bMo_doSet 53 = .ok (.goto 4, 3) := by decide +kernel
theorem dMo_doSet_56 : decode bMo_doSet 56 = .ok (.iconst 0, 1) := by decide +kernel
theorem dMo_doSet_57 : decode bMo_doSet 57 = .ok (.putfield 126, 3) := by decide +kernel
theorem dMo_doSet_60 : decode bMo_doSet 60 = .ok (.aload_n 0, 1) := by decide +kernel
theorem dMo_doSet_61 : decode bMo_doSet 61 = .ok (.iload_n 3, 1) := by decide +kernel
theorem dMo_doSet_62 : decode bMo_doSet 62 = .ok (.ifCond .ne 13, 3) := by decide +kernel
theorem dMo_doSet_65 : decode bMo_doSet 65 = .ok (.aload_n 0, 1) := by decide +kernel
theorem dMo_doSet_66 : decode bMo_doSet 66 = .ok (.getfield 122, 3) := by decide +kernel
theorem dMo_doSet_69 : decode bMo_doSet 69 = .ok (.lload 4, 2) := by decide +kernel
theorem dMo_doSet_71 : decode bMo_doSet 71 = .ok (.lor, 1) := by decide +kernel
theorem dMo_doSet_72 : decode bMo_doSet 72 = .ok (.goto 26, 3) := by decide +kernel
theorem dMo_doSet_75 : decode bMo_doSet 75 = .ok (.iload_n 3, 1) := by decide +kernel
theorem dMo_doSet_76 : decode bMo_doSet 76 = .ok (.iconst 1, 1) := by decide +kernel
theorem dMo_doSet_77 : decode bMo_doSet 77 = .ok (.if_icmp .ne 17, 3) := by decide +kernel
theorem dMo_doSet_80 : decode bMo_doSet 80 = .ok (.aload_n 0, 1) := by decide +kernel
theorem dMo_doSet_81 : decode bMo_doSet 81 = .ok (.getfield 122, 3) := by decide +kernel
theorem dMo_doSet_84 : decode bMo_doSet 84 = .ok (.lload 4, 2) := by decide +kernel
theorem dMo_doSet_86 : decode bMo_doSet 86 = .ok (.ldc2_w 141, 3) := by decide +kernel
theorem dMo_doSet_89 : decode bMo_doSet 89 = .ok (.lxor, 1) := by decide +kernel
theorem dMo_doSet_90 : decode bMo_doSet 90 = .ok (.land, 1) := by decide +kernel
theorem dMo_doSet_91 : decode bMo_doSet 91 = .ok (.goto 7, 3) := by decide +kernel
theorem dMo_doSet_94 : decode bMo_doSet 94 = .ok (.aload_n 0, 1) := by decide +kernel
theorem dMo_doSet_95 : decode bMo_doSet 95 = .ok (.getfield 122, 3) := by decide +kernel
theorem dMo_doSet_98 : decode bMo_doSet 98 = .ok (.putfield 122, 3) := by decide +kernel
theorem dMo_doSet_101 : decode bMo_doSet 101 = .ok (.return_, 1) := by decide +kernel
theorem dMo_likeFirst_0 : decode bMo_likeFirst 0 = .ok (.iconst 0, 1) := by decide +kernel
theorem dMo_likeFirst_1 : decode bMo_likeFirst 1 = .ok (.istore_n 3, 1) := by decide +kernel
theorem dMo_likeFirst_2 : decode bMo_likeFirst 2 = .ok (.aload_n 0, 1) := by decide +kernel
theorem dMo_likeFirst_3 : decode bMo_likeFirst 3 = .ok (.getfield 28, 3) := by decide +kernel
theorem dMo_likeFirst_6 : decode bMo_likeFirst 6 = .ok (.aload_n 0, 1) := by decide +kernel
theorem dMo_likeFirst_7 : decode bMo_likeFirst 7 = .ok (.getfield 16, 3) := by decide +kernel
theorem dMo_likeFirst_10 : decode bMo_likeFirst 10 = .ok (.bipush 16, 2) := by decide +kernel
theorem dMo_likeFirst_12 : decode bMo_likeFirst 12 = .ok (.iload_n 1, 1) := by decide +kernel
theorem dMo_likeFirst_13 : decode bMo_likeFirst 13 = .ok (.imul, 1) := by decide +kernel
theorem dMo_likeFirst_14 : decode bMo_likeFirst 14 = .ok (.iload_n 3, 1) := by decide +kernel
theorem dMo_likeFirst_15 : decode bMo_likeFirst 15 = .ok (.iadd, 1) := by decide +kernel
theorem dMo_likeFirst_16 : decode bMo_likeFirst 16 = .ok (.iaload, 1) := by decide +kernel
theorem dMo_likeFirst_17 : decode bMo_likeFirst 17 = .ok (.iaload, 1) := by decide +kernel
theorem dMo_likeFirst_18 : decode bMo_likeFirst 18 = .ok (.aload_n 0, 1) := by decide +kernel
theorem dMo_likeFirst_19 : decode bMo_likeFirst 19 = .ok (.getfield 28, 3) := by decide +kernel
theorem dMo_likeFirst_22 : decode bMo_likeFirst 22 = .ok (.aload_n 0, 1) := by decide +kernel
theorem dMo_likeFirst_23 : decode bMo_likeFirst 23 = .ok (.getfield 16, 3) := by decide +kernel
theorem dMo_likeFirst_26 : decode bMo_likeFirst 26 = .ok (.bipush 16, 2) := by decide +kernel
theorem dMo_likeFirst_28 : decode bMo_likeFirst 28 = .ok (.iload_n 1, 1) := by decide +kernel
theorem dMo_likeFirst_29 : decode bMo_likeFirst 29 = .ok (.imul, 1) := by decide +kernel
theorem dMo_likeFirst_30 : decode bMo_likeFirst 30 = .ok (.iload_n 2, 1) := by decide +kernel
theorem dMo_likeFirst_31 : decode bMo_likeFirst 31 = .ok (.iadd, 1) := by decide +kernel
theorem dMo_likeFirst_32 : decode bMo_likeFirst 32 = .ok (.iaload, 1) := by decide +kernel
theorem dMo_likeFirst_33 : decode bMo_likeFirst 33 = .ok (.iaload, 1) := by decide +kernel
theorem dMo_likeFirst_34 : decode bMo_likeFirst 34 = .ok (.if_icmp .eq 9, 3) := by decide +kernel
theorem dMo_likeFirst_37 : decode bMo_likeFirst 37 = .ok (.iinc 3 1, 3) := by decide +kernel
theorem dMo_likeFirst_40 : decode bMo_likeFirst 40 = .ok (.goto (-38), 3) := by decide +kernel
theorem dMo_likeFirst_43 : decode bMo_likeFirst 43 = .ok (.iload_n 3, 1) := by decide +kernel
theorem dMo_likeFirst_44 : decode bMo_likeFirst 44 = .ok (.ireturn, 1) := by decide +kernel
theorem dMo_doMap_0 : decode bMo_doMap 0 = .ok (.aload_n 0, 1) := by decide +kernel
theorem dMo_doMap_1 : decode bMo_doMap 1 = .ok (.getfield 16, 3) := by decide +kernel
theorem dMo_doMap_4 : decode bMo_doMap 4 = .ok (.bipush 16, 2) := by decide +kernel
theorem dMo_doMap_6 : decode bMo_doMap 6 = .ok (.iload_n 1, 1) := by decide +kernel
theorem dMo_doMap_7 : decode bMo_doMap 7 = .ok (.imul, 1) := by decide +kernel
theorem dMo_doMap_8 : decode bMo_doMap 8 = .ok (.iload_n 2, 1) := by decide +kernel
theorem dMo_doMap_9 : decode bMo_doMap 9 = .ok (.iadd, 1) := by decide +kernel
theorem dMo_doMap_10 : decode bMo_doMap 10 = .ok (.iaload, 1) := by decide +kernel
theorem dMo_doMap_11 : decode bMo_doMap 11 = .ok (.istore 4, 2) := by decide +kernel
theorem dMo_doMap_13 : decode bMo_doMap 13 = .ok (.iconst 5, 1) := by decide +kernel
theorem dMo_doMap_14 : decode bMo_doMap 14 = .ok (.aload_n 0, 1) := by decide +kernel
theorem dMo_doMap_15 : decode bMo_doMap 15 = .ok (.getfield 28, 3) := by decide +kernel
theorem dMo_doMap_18 : decode bMo_doMap 18 = .ok (.iload 4, 2) := by decide +kernel
theorem dMo_doMap_20 : decode bMo_doMap 20 = .ok (.iaload, 1) := by decide +kernel
theorem dMo_doMap_21 : decode bMo_doMap 21 = .ok (.bipush 7, 2) := by decide +kernel
theorem dMo_doMap_23 : decode bMo_doMap 23 = .ok (.iand, 1) := by decide +kernel
theorem dMo_doMap_24 : decode bMo_doMap 24 = .ok (.imul, 1) := by decide +kernel
theorem dMo_doMap_25 : decode bMo_doMap 25 = .ok (.istore 5, 2) := by decide +kernel
theorem dMo_doMap_27 : decode bMo_doMap 27 = .ok (.aload_n 0, 1) := by decide +kernel
theorem dMo_doMap_28 : decode bMo_doMap 28 = .ok (.getfield 122, 3) := by decide +kernel
theorem dMo_doMap_31 : decode bMo_doMap 31 = .ok (.iload 5, 2) := by decide +kernel
theorem dMo_doMap_33 : decode bMo_doMap 33 = .ok (.lushr, 1) := by decide +kernel
theorem dMo_doMap_34 : decode bMo_doMap 34 = .ok (.ldc2_w 143, 3) := by decide +kernel
theorem dMo_doMap_37 : decode bMo_doMap 37 = .ok (.land, 1) := by decide +kernel
theorem dMo_doMap_38 : decode bMo_doMap 38 = .ok (.l2i, 1) := by decide +kernel
theorem dMo_doMap_39 : decode bMo_doMap 39 = .ok (.istore 6, 2) := by decide +kernel
theorem dMo_doMap_41 : decode bMo_doMap 41 = .ok (.aload_n 0, 1) := by decide +kernel
theorem dMo_doMap_42 : decode bMo_doMap 42 = .ok (.iload 6, 2) := by decide +kernel
theorem dMo_doMap_44 : decode bMo_doMap 44 = .ok (.ifCond .ne 8, 3) := by decide +kernel
theorem dMo_doMap_47 : decode bMo_doMap 47 = .ok (.ldc 140, 2) := by decide +kernel
theorem dMo_doMap_49 : decode bMo_doMap 49 = .ok (.goto 22, 3) := by decide +kernel
theorem dMo_doMap_52 : decode bMo_doMap 52 = .ok (.aload_n 0, 1) := by decide +kernel
theorem dMo_doMap_53 : decode bMo_doMap 53 = .ok (.getfield 31, 3) := by decide +kernel
theorem dMo_doMap_56 : decode bMo_doMap 56 = .ok (.aload_n 0, 1) := by decide +kernel
theorem dMo_doMap_57 : decode bMo_doMap 57 = .ok (.getfield 16, 3) := by decide +kernel
theorem dMo_doMap_60 : decode bMo_doMap 60 = .ok (.bipush 16, 2) := by decide +kernel
theorem dMo_doMap_62 : decode bMo_doMap 62 = .ok (.iload_n 1, 1) := by decide +kernel
theorem dMo_doMap_63 : decode bMo_doMap 63 = .ok (.imul, 1) := by decide +kernel
theorem dMo_doMap_64 : decode bMo_doMap 64 = .ok (.iload 6, 2) := by decide +kernel
theorem dMo_doMap_66 : decode bMo_doMap 66 = .ok (.iadd, 1) := by decide +kernel
theorem dMo_doMap_67 : decode bMo_doMap 67 = .ok (.iconst 1, 1) := by decide +kernel
theorem dMo_doMap_68 : decode bMo_doMap 68 = .ok (.isub, 1) := by decide +kernel
theorem dMo_doMap_69 : decode bMo_doMap 69 = .ok (.iaload, 1) := by decide +kernel
theorem dMo_doMap_70 : decode bMo_doMap 70 = .ok (.iaload, 1) := by decide +kernel
theorem dMo_doMap_71 : decode bMo_doMap 71 = .ok (.putfield 126, 3) := by decide +kernel
theorem dMo_doMap_74 : decode bMo_doMap 74 = .ok (.iload_n 3, 1) := by decide +kernel
theorem dMo_doMap_75 : decode bMo_doMap 75 = .ok (.iconst 1, 1) := by decide +kernel
theorem dMo_doMap_76 : decode bMo_doMap 76 = .ok (.if_icmp .eq 22, 3) := by decide +kernel
theorem dMo_doMap_79 : decode bMo_doMap 79 = .ok (.aload_n 0, 1) := by decide +kernel
theorem dMo_doMap_80 : decode bMo_doMap 80 = .ok (.aload_n 0, 1) := by decide +kernel
theorem dMo_doMap_81 : decode bMo_doMap 81 = .ok (.getfield 122, 3) := by decide +kernel
theorem dMo_doMap_84 : decode bMo_doMap 84 = .ok (.ldc2_w 143, 3) := by decide +kernel
theorem dMo_doMap_87 : decode bMo_doMap 87 = .ok (.iload 5, 2) := by decide +kernel
theorem dMo_doMap_89 : decode bMo_doMap 89 = .ok (.lshl, 1) := by decide +kernel
theorem dMo_doMap_90 : decode bMo_doMap 90 = .ok (.ldc2_w 141, 3) := by decide +kernel
theorem dMo_doMap_93 : decode bMo_doMap 93 = .ok (.lxor, 1) := by decide +kernel
theorem dMo_doMap_94 : decode bMo_doMap 94 = .ok (.land, 1) := by decide +kernel
theorem dMo_doMap_95 : decode bMo_doMap 95 = .ok (.putfield 122, 3) := by decide +kernel
theorem dMo_doMap_98 : decode bMo_doMap 98 = .ok (.iload_n 3, 1) := by decide +kernel
theorem dMo_doMap_99 : decode bMo_doMap 99 = .ok (.ifCond .ne 36, 3) := by decide +kernel
theorem dMo_doMap_102 : decode bMo_doMap 102 = .ok (.aload_n 0, 1) := by decide +kernel
theorem dMo_doMap_103 : decode bMo_doMap 103 = .ok (.getfield 31, 3) := by decide +kernel
theorem dMo_doMap_106 : decode bMo_doMap 106 = .ok (.iload 4, 2) := by decide +kernel
theorem dMo_doMap_108 : decode bMo_doMap 108 = .ok (.iaload, 1) := by decide +kernel
theorem dMo_doMap_109 : decode bMo_doMap 109 = .ok (.ldc 140, 2) := by decide +kernel
theorem dMo_doMap_111 : decode bMo_doMap 111 = .ok (.if_icmp .eq 24, 3) := by decide +kernel
theorem dMo_doMap_114 : decode bMo_doMap 114 = .ok (.aload_n 0, 1) := by decide +kernel
theorem dMo_doMap_115 : decode bMo_doMap 115 = .ok (.aload_n 0, 1) := by decide +kernel
theorem dMo_doMap_116 : decode bMo_doMap 116 = .ok (.getfield 122, 3) := by decide +kernel
theorem dMo_doMap_119 : decode bMo_doMap 119 = .ok (.aload_n 0, 1) := by decide +kernel
theorem dMo_doMap_120 : decode bMo_doMap 120 = .ok (.iload_n 1, 1) := by decide +kernel
theorem dMo_doMap_121 : decode bMo_doMap 121 = .ok (.iload_n 2, 1) := by decide +kernel
theorem dMo_doMap_122 : decode bMo_doMap 122 = .ok (.invokevirtual 145, 3) := by decide +kernel
theorem dMo_doMap_125 : decode bMo_doMap 125 = .ok (.iconst 1, 1) := by decide +kernel
theorem dMo_doMap_126 : decode bMo_doMap 126 = .ok (.iadd, 1) := by decide +kernel
theorem dMo_doMap_127 : decode bMo_doMap 127 = .ok (.i2l, 1) := by decide +kernel
theorem dMo_doMap_128 : decode bMo_doMap 128 = .ok (.iload 5, 2) := by decide +kernel
theorem dMo_doMap_130 : decode bMo_doMap 130 = .ok (.lshl, 1) := by decide +kernel
theorem dMo_doMap_131 : decode bMo_doMap 131 = .ok (.lor, 1) := by decide +kernel
theorem dMo_doMap_132 : decode bMo_doMap 132 = .ok (.putfield 122, 3) := by decide +kernel
theorem dMo_doMap_135 : decode bMo_doMap 135 = .ok (.return_, 1) := by decide +kernel
theorem dMo_likeSecond_0 : decode bMo_likeSecond 0 = .ok (.iconst 0, 1) := by decide +kernel
theorem dMo_likeSecond_1 : decode bMo_likeSecond 1 = .ok (.istore_n 3, 1) := by decide +kernel
theorem dMo_likeSecond_2 : decode bMo_likeSecond 2 = .ok (.aload_n 0, 1) := by decide +kernel
theorem dMo_likeSecond_3 : decode bMo_likeSecond 3 = .ok (.getfield 31, 3) := by decide +kernel
theorem dMo_likeSecond_6 : decode bMo_likeSecond 6 = .ok (.aload_n 0, 1) := by decide +kernel
theorem dMo_likeSecond_7 : decode bMo_likeSecond 7 = .ok (.getfield 16, 3) := by decide +kernel
theorem dMo_likeSecond_10 : decode bMo_likeSecond 10 = .ok (.bipush 16, 2) := by decide +kernel
theorem dMo_likeSecond_12 : decode bMo_likeSecond 12 = .ok (.iload_n 1, 1) := by decide +kernel
theorem dMo_likeSecond_13 : decode bMo_likeSecond 13 = .ok (.imul, 1) := by decide +kernel
theorem dMo_likeSecond_14 : decode bMo_likeSecond 14 = .ok (.iload_n 3, 1) := by decide +kernel
theorem dMo_likeSecond_15 : decode bMo_likeSecond 15 = .ok (.iadd, 1) := by decide +kernel
theorem dMo_likeSecond_16 : decode bMo_likeSecond 16 = .ok (.iaload, 1) := by decide +kernel
theorem dMo_likeSecond_17 : decode bMo_likeSecond 17 = .ok (.iaload, 1) := by decide +kernel
theorem dMo_likeSecond_18 : decode bMo_likeSecond 18 = .ok (.aload_n 0, 1) := by decide +kernel
theorem dMo_likeSecond_19 : decode bMo_likeSecond 19 = .ok (.getfield 31, 3) := by decide +kernel
theorem dMo_likeSecond_22 : decode bMo_likeSecond 22 = .ok (.aload_n 0, 1) := by decide +kernel
theorem dMo_likeSecond_23 : decode bMo_likeSecond 23 = .ok (.getfield 16, 3) := by decide +kernel
theorem dMo_likeSecond_26 : decode bMo_likeSecond 26 = .ok (.bipush 16, 2) := by decide +kernel
theorem dMo_likeSecond_28 : decode bMo_likeSecond 28 = .ok (.iload_n 1, 1) := by decide +kernel
theorem dMo_likeSecond_29 : decode bMo_likeSecond 29 = .ok (.imul, 1) := by decide +kernel
theorem dMo_likeSecond_30 : decode bMo_likeSecond 30 = .ok (.iload_n 2, 1) := by decide +kernel
theorem dMo_likeSecond_31 : decode bMo_likeSecond 31 = .ok (.iadd, 1) := by decide +kernel
theorem dMo_likeSecond_32 : decode bMo_likeSecond 32 = .ok (.iaload, 1) := by decide +kernel
theorem dMo_likeSecond_33 : decode bMo_likeSecond 33 = .ok (.iaload, 1) := by decide +kernel
theorem dMo_likeSecond_34 : decode bMo_likeSecond 34 = .ok (.if_icmp .eq 9, 3) := by decide +kernel
theorem dMo_likeSecond_37 : decode bMo_likeSecond 37 = .ok (.iinc 3 1, 3) := by decide +kernel
theorem dMo_likeSecond_40 : decode bMo_likeSecond 40 = .ok (.goto (-38), 3) := by decide +kernel
theorem dMo_likeSecond_43 : decode bMo_likeSecond 43 = .ok (.iload_n 3, 1) := by decide +kernel
theorem dMo_likeSecond_44 : decode bMo_likeSecond 44 = .ok (.ireturn, 1) := by decide +kernel
end
section
theorem dMo_doRow_0 : decode bMo_doRow 0 = .ok (.iload_n 3, 1) := by decide +kernel
theorem dMo_doRow_1 : decode bMo_doRow 1 = .ok (.iconst 2, 1) := by decide +kernel
theorem dMo_doRow_2 : decode bMo_doRow 2 = .ok (.if_icmp .ne 12, 3) := by decide +kernel
theorem dMo_doRow_5 : decode bMo_doRow 5 = .ok (.aload_n 0, 1) := by decide +kernel
theorem dMo_doRow_6 : decode bMo_doRow 6 = .ok (.aload_n 0, 1) := by decide +kernel
theorem dMo_doRow_7 : decode bMo_doRow 7 = .ok (.getfield 129, 3) := by decide +kernel
theorem dMo_doRow_10 : decode bMo_doRow 10 = .ok (.putfield 126, 3) := by decide +kernel
theorem dMo_doRow_13 : decode bMo_doRow 13 = .ok (.return_, 1) := by decide +kernel
theorem dMo_doRow_14 : decode bMo_doRow 14 = .ok (.iload_n 3, 1) := by decide +kernel
theorem dMo_doRow_15 : decode bMo_doRow 15 = .ok (.ifCond .ne 183, 3) := by decide +kernel
theorem dMo_doRow_18 : decode bMo_doRow 18 = .ok (.aload_n 0, 1) := by decide +kernel
theorem dMo_doRow_19 : decode bMo_doRow 19 = .ok (.getfield 129, 3) := by decide +kernel
theorem dMo_doRow_22 : decode bMo_doRow 22 = .ok (.istore 4, 2) := by decide +kernel
theorem dMo_doRow_24 : decode bMo_doRow 24 = .ok (.aload_n 0, 1) := by decide +kernel
theorem dMo_doRow_25 : decode bMo_doRow 25 = .ok (.iload_n 1, 1) := by decide +kernel
theorem dMo_doRow_26 : decode bMo_doRow 26 = .ok (.iload_n 2, 1) := by decide +kernel
theorem dMo_doRow_27 : decode bMo_doRow 27 = .ok (.invokevirtual 132, 3) := by decide +kernel
theorem dMo_doRow_30 : decode bMo_doRow 30 = .ok (.istore 5, 2) := by decide +kernel
theorem dMo_doRow_32 : decode bMo_doRow 32 = .ok (.aload_n 0, 1) := by decide +kernel
theorem dMo_doRow_33 : decode bMo_doRow 33 = .ok (.getfield 28, 3) := by decide +kernel
theorem dMo_doRow_36 : decode bMo_doRow 36 = .ok (.aload_n 0, 1) := by decide +kernel
theorem dMo_doRow_37 : decode bMo_doRow 37 = .ok (.getfield 16, 3) := by decide +kernel
theorem dMo_doRow_40 : decode bMo_doRow 40 = .ok (.bipush 16, 2) := by decide +kernel
theorem dMo_doRow_42 : decode bMo_doRow 42 = .ok (.iload_n 1, 1) := by decide +kernel
theorem dMo_doRow_43 : decode bMo_doRow 43 = .ok (.imul, 1) := by decide +kernel
theorem dMo_doRow_44 : decode bMo_doRow 44 = .ok (.iload_n 2, 1) := by decide +kernel
theorem dMo_doRow_45 : decode bMo_doRow 45 = .ok (.iadd, 1) := by decide +kernel
theorem dMo_doRow_46 : decode bMo_doRow 46 = .ok (.iaload, 1) := by decide +kernel
theorem dMo_doRow_47 : decode bMo_doRow 47 = .ok (.iaload, 1) := by decide +kernel
theorem dMo_doRow_48 : decode bMo_doRow 48 = .ok (.istore 6, 2) := by decide +kernel
theorem dMo_doRow_50 : decode bMo_doRow 50 = .ok (.aload_n 0, 1) := by decide +kernel
theorem dMo_doRow_51 : decode bMo_doRow 51 = .ok (.getfield 7, 3) := by decide +kernel
theorem dMo_doRow_54 : decode bMo_doRow 54 = .ok (.iload_n 1, 1) := by decide +kernel
theorem dMo_doRow_55 : decode bMo_doRow 55 = .ok (.iaload, 1) := by decide +kernel
theorem dMo_doRow_56 : decode bMo_doRow 56 = .ok (.iconst 4, 1) := by decide +kernel
theorem dMo_doRow_57 : decode bMo_doRow 57 = .ok (.if_icmp .ne 45, 3) := by decide +kernel
theorem dMo_doRow_60 : decode bMo_doRow 60 = .ok (.iload 4, 2) := by decide +kernel
theorem dMo_doRow_62 : decode bMo_doRow 62 = .ok (.ifCond .le 40, 3) := by decide +kernel
theorem dMo_doRow_65 : decode bMo_doRow 65 = .ok (.aload_n 0, 1) := by decide +kernel
theorem dMo_doRow_66 : decode bMo_doRow 66 = .ok (.getfield 28, 3) := by decide +kernel
theorem dMo_doRow_69 : decode bMo_doRow 69 = .ok (.aload_n 0, 1) := by decide +kernel
theorem dMo_doRow_70 : decode bMo_doRow 70 = .ok (.getfield 16, 3) := by decide +kernel
theorem dMo_doRow_73 : decode bMo_doRow 73 = .ok (.bipush 16, 2) := by decide +kernel
theorem dMo_doRow_75 : decode bMo_doRow 75 = .ok (.iload_n 1, 1) := by decide +kernel
theorem dMo_doRow_76 : decode bMo_doRow 76 = .ok (.imul, 1) := by decide +kernel
theorem dMo_doRow_77 : decode bMo_doRow 77 = .ok (.aload_n 0, 1) := by decide +kernel
theorem dMo_doRow_78 : decode bMo_doRow 78 = .ok (.getfield 122, 3) := by decide +kernel
theorem dMo_doRow_81 : decode bMo_doRow 81 = .ok (.iload 4, 2) := by decide +kernel
theorem dMo_doRow_83 : decode bMo_doRow 83 = .ok (.iconst 1, 1) := by decide +kernel
theorem dMo_doRow_84 : decode bMo_doRow 84 = .ok (.isub, 1) := by decide +kernel
theorem dMo_doRow_85 : decode bMo_doRow 85 = .ok (.invokestatic 136, 3) := by decide +kernel
theorem dMo_doRow_88 : decode bMo_doRow 88 = .ok (.iadd, 1) := by decide +kernel
theorem dMo_doRow_89 : decode bMo_doRow 89 = .ok (.iaload, 1) := by decide +kernel
theorem dMo_doRow_90 : decode bMo_doRow 90 = .ok (.iaload, 1) := by decide +kernel
theorem dMo_doRow_91 : decode bMo_doRow 91 = .ok (.iload 6, 2) := by decide +kernel
theorem dMo_doRow_93 : decode bMo_doRow 93 = .ok (.if_icmp .le 9, 3) := by decide +kernel
theorem dMo_doRow_96 : decode bMo_doRow 96 = .ok (.iinc 4 (-1), 3) := by decide +kernel
theorem dMo_doRow_99 : decode bMo_doRow 99 = .ok (.goto (-49), 3) := by decide +kernel
theorem dMo_doRow_102 : decode bMo_doRow 102 = .ok (.iload 4, 2) := by decide +kernel
theorem dMo_doRow_104 : decode bMo_doRow 104 = .ok (.ifCond .ne 7, 3) := by decide +kernel
theorem dMo_doRow_107 : decode bMo_doRow 107 = .ok (.lconst 0, 1) := by decide +kernel
theorem dMo_doRow_108 : decode bMo_doRow 108 = .ok (.goto 23, 3) := by decide +kernel
theorem dMo_doRow_111 : decode bMo_doRow 111 = .ok (.aload_n 0, 1) := by decide +kernel
theorem dMo_doRow_112 : decode bMo_doRow 112 = .ok (.getfield 122, 3) := by decide +kernel
theorem dMo_doRow_115 : decode bMo_doRow 115 = .ok (.bipush 64, 2) := by decide +kernel
theorem dMo_doRow_117 : decode bMo_doRow 117 = .ok (.iconst 4, 1) := by decide +kernel
theorem dMo_doRow_118 : decode bMo_doRow 118 = .ok (.iload 4, 2) := by decide +kernel
theorem dMo_doRow_120 : decode bMo_doRow 120 = .ok (.imul, 1) := by decide +kernel
theorem dMo_doRow_121 : decode bMo_doRow 121 = .ok (.isub, 1) := by decide +kernel
theorem dMo_doRow_122 : decode bMo_doRow 122 = .ok (.lshl, 1) := by decide +kernel
theorem dMo_doRow_123 : decode bMo_doRow 123 = .ok (.bipush 64, 2) := by decide +kernel
theorem dMo_doRow_125 : decode bMo_doRow 125 = .ok (.iconst 4, 1) := by decide +kernel
theorem dMo_doRow_126 : decode bMo_doRow 126 = .ok (.iload 4, 2) := by decide +kernel
theorem dMo_doRow_128 : decode bMo_doRow 128 = .ok (.imul, 1) := by decide +kernel
theorem dMo_doRow_129 : decode bMo_doRow 129 = .ok (.isub, 1) := by decide +kernel
theorem dMo_doRow_130 : decode bMo_doRow 130 = .ok (.lushr, 1) := by decide +kernel
theorem dMo_doRow_131 : decode bMo_doRow 131 = .ok (.lstore 7, 2) := by decide +kernel
theorem dMo_doRow_133 : decode bMo_doRow 133 = .ok (.iload 4, 2) := by decide +kernel
theorem dMo_doRow_135 : decode bMo_doRow 135 = .ok (.aload_n 0, 1) := by decide +kernel
theorem dMo_doRow_136 : decode bMo_doRow 136 = .ok (.getfield 129, 3) := by decide +kernel
theorem dMo_doRow_139 : decode bMo_doRow 139 = .ok (.if_icmp .ne 7, 3) := by decide +kernel
theorem dMo_doRow_142 : decode bMo_doRow 142 = .ok (.lconst 0, 1) := by decide +kernel
theorem dMo_doRow_143 : decode bMo_doRow 143 = .ok (.goto 19, 3) := by decide +kernel
theorem dMo_doRow_146 : decode bMo_doRow 146 = .ok (.aload_n 0, 1) := by decide +kernel
theorem dMo_doRow_147 : decode bMo_doRow 147 = .ok (.getfield 122, 3) := by decide +kernel
theorem dMo_doRow_150 : decode bMo_doRow 150 = .ok (.iconst 4, 1) := by decide +kernel
theorem dMo_doRow_151 : decode bMo_doRow 151 = .ok (.iload 4, 2) := by decide +kernel
theorem dMo_doRow_153 : decode bMo_doRow 153 = .ok (.imul, 1) := by decide +kernel
theorem dMo_doRow_154 : decode bMo_doRow 154 = .ok (.lushr, 1) := by decide +kernel
theorem dMo_doRow_155 : decode bMo_doRow 155 = .ok (.iconst 4, 1) := by decide +kernel
theorem dMo_doRow_156 : decode bMo_doRow 156 = .ok (.iload 4, 2) := by decide +kernel
theorem dMo_doRow_158 : decode bMo_doRow 158 = .ok (.imul, 1) := by decide +kernel
theorem dMo_doRow_159 : decode bMo_doRow 159 = .ok (.iconst 4, 1) := by decide +kernel
theorem dMo_doRow_160 : decode bMo_doRow 160 = .ok (.iadd, 1) := by decide +kernel
theorem dMo_doRow_161 : decode bMo_doRow 161 = .ok (.lshl, 1) := by decide +kernel
theorem dMo_doRow_162 : decode bMo_doRow 162 = .ok (.lstore 9, 2) := by decide +kernel
theorem dMo_doRow_164 : decode bMo_doRow 164 = .ok (.aload_n 0, 1) := by decide +kernel
theorem dMo_doRow_165 : decode bMo_doRow 165 = .ok (.lload 9, 2) := by decide +kernel
theorem dMo_doRow_167 : decode bMo_doRow 167 = .ok (.iload 5, 2) := by decide +kernel
theorem dMo_doRow_169 : decode bMo_doRow 169 = .ok (.i2l, 1) := by decide +kernel
theorem dMo_doRow_170 : decode bMo_doRow 170 = .ok (.iconst 4, 1) := by decide +kernel
theorem dMo_doRow_171 : decode bMo_doRow 171 = .ok (.iload 4, 2) := by decide +kernel
theorem dMo_doRow_173 : decode bMo_doRow 173 = .ok (.imul, 1) := by decide +kernel
theorem dMo_doRow_174 : decode bMo_doRow 174 = .ok (.lshl, 1) := by decide +kernel
theorem dMo_doRow_175 : decode bMo_doRow 175 = .ok (.lor, 1) := by decide +kernel
theorem dMo_doRow_176 : decode bMo_doRow 176 = .ok (.lload 7, 2) := by decide +kernel
theorem dMo_doRow_178 : decode bMo_doRow 178 = .ok (.lor, 1) := by decide +kernel
theorem dMo_doRow_179 : decode bMo_doRow 179 = .ok (.putfield 122, 3) := by decide +kernel
theorem dMo_doRow_182 : decode bMo_doRow 182 = .ok (.aload_n 0, 1) := by decide +kernel
theorem dMo_doRow_183 : decode bMo_doRow 183 = .ok (.dup, 1) := by decide +kernel
theorem dMo_doRow_184 : decode bMo_doRow 184 = .ok (.getfield 129, 3) := by decide +kernel
theorem dMo_doRow_187 : decode bMo_doRow 187 = .ok (.iconst 1, 1) := by decide +kernel
theorem dMo_doRow_188 : decode bMo_doRow 188 = .ok (.iadd, 1) := by decide +kernel
theorem dMo_doRow_189 : decode bMo_doRow 189 = .ok (.putfield 129, 3) := by decide +kernel
theorem dMo_doRow_192 : decode bMo_doRow 192 = .ok (.aload_n 0, 1) := by decide +kernel
theorem dMo_doRow_193 : decode bMo_doRow 193 = .ok (.iconst 0, 1) := by decide +kernel
theorem dMo_doRow_194 : decode bMo_doRow 194 = .ok (.putfield 126, 3) := by decide +kernel
theorem dMo_doRow_197 : decode bMo_doRow 197 = .ok (.return_, 1) := by decide +kernel
theorem dMo_doRow_198 : decode bMo_doRow 198 = .ok (.aload_n 0, 1) := by decide +kernel
theorem dMo_doRow_199 : decode bMo_doRow 199 = .ok (.getfield 129, 3) := by decide +kernel
theorem dMo_doRow_202 : decode bMo_doRow 202 = .ok (.ifCond .ne 10, 3) := by decide +kernel
theorem dMo_doRow_205 : decode bMo_doRow 205 = .ok (.aload_n 0, 1) := by decide +kernel
theorem dMo_doRow_206 : decode bMo_doRow 206 = .ok (.ldc 140, 2) := by decide +kernel
theorem dMo_doRow_208 : decode bMo_doRow 208 = .ok (.putfield 126, 3) := by decide +kernel
theorem dMo_doRow_211 : decode bMo_doRow 211 = .ok (.return_, 1) := by decide +kernel
theorem dMo_doRow_212 : decode bMo_doRow 212 = .ok (.aload_n 0, 1) := by decide +kernel
theorem dMo_doRow_213 : decode bMo_doRow 213 = .ok (.getfield 7, 3) := by decide +kernel
theorem dMo_doRow_216 : decode bMo_doRow 216 = .ok (.iload_n 1, 1) := by decide +kernel
theorem dMo_doRow_217 : decode bMo_doRow 217 = .ok (.iaload, 1) := by decide +kernel
theorem dMo_doRow_218 : decode bMo_doRow 218 = .ok (.iconst 2, 1) := by decide +kernel
theorem dMo_doRow_219 : decode bMo_doRow 219 = .ok (.if_icmp .ne 12, 3) := by decide +kernel
theorem dMo_doRow_222 : decode bMo_doRow 222 = .ok (.aload_n 0, 1) := by decide +kernel
theorem dMo_doRow_223 : decode bMo_doRow 223 = .ok (.getfield 129, 3) := by decide +kernel
theorem dMo_doRow_226 : decode bMo_doRow 226 = .ok (.iconst 1, 1) := by decide +kernel
theorem dMo_doRow_227 : decode bMo_doRow 227 = .ok (.isub, 1) := by decide +kernel
theorem dMo_doRow_228 : decode bMo_doRow 228 = .ok (.goto 4, 3) := by decide +kernel
theorem dMo_doRow_231 : decode bMo_doRow 231 = .ok (.iconst 0, 1) := by decide +kernel
theorem dMo_doRow_232 : decode bMo_doRow 232 = .ok (.istore 4, 2) := by decide +kernel
theorem dMo_doRow_234 : decode bMo_doRow 234 = .ok (.aload_n 0, 1) := by decide +kernel
theorem dMo_doRow_235 : decode bMo_doRow 235 = .ok (.aload_n 0, 1) := by decide +kernel
theorem dMo_doRow_236 : decode bMo_doRow 236 = .ok (.getfield 28, 3) := by decide +kernel
theorem dMo_doRow_239 : decode bMo_doRow 239 = .ok (.aload_n 0, 1) := by decide +kernel
theorem dMo_doRow_240 : decode bMo_doRow 240 = .ok (.getfield 16, 3) := by decide +kernel
theorem dMo_doRow_243 : decode bMo_doRow 243 = .ok (.bipush 16, 2) := by decide +kernel
theorem dMo_doRow_245 : decode bMo_doRow 245 = .ok (.iload_n 1, 1) := by decide +kernel
theorem dMo_doRow_246 : decode bMo_doRow 246 = .ok (.imul, 1) := by decide +kernel
theorem dMo_doRow_247 : decode bMo_doRow 247 = .ok (.aload_n 0, 1) := by decide +kernel
theorem dMo_doRow_248 : decode bMo_doRow 248 = .ok (.getfield 122, 3) := by decide +kernel
theorem dMo_doRow_251 : decode bMo_doRow 251 = .ok (.iload 4, 2) := by decide +kernel
theorem dMo_doRow_253 : decode bMo_doRow 253 = .ok (.invokestatic 136, 3) := by decide +kernel
theorem dMo_doRow_256 : decode bMo_doRow 256 = .ok (.iadd, 1) := by decide +kernel
theorem dMo_doRow_257 : decode bMo_doRow 257 = .ok (.iaload, 1) := by decide +kernel
theorem dMo_doRow_258 : decode bMo_doRow 258 = .ok (.iaload, 1) := by decide +kernel
theorem dMo_doRow_259 : decode bMo_doRow 259 = .ok (.putfield 126, 3) := by decide +kernel
theorem dMo_doRow_262 : decode bMo_doRow 262 = .ok (.aload_n 0, 1) := by decide +kernel
theorem dMo_doRow_263 : decode bMo_doRow 263 = .ok (.aload_n 0, 1) := by decide +kernel
theorem dMo_doRow_264 : decode bMo_doRow 264 = .ok (.getfield 7, 3) := by decide +kernel
theorem dMo_doRow_267 : decode bMo_doRow 267 = .ok (.iload_n 1, 1) := by decide +kernel
theorem dMo_doRow_268 : decode bMo_doRow 268 = .ok (.iaload, 1) := by decide +kernel
theorem dMo_doRow_269 : decode bMo_doRow 269 = .ok (.iconst 2, 1) := by decide +kernel
theorem dMo_doRow_270 : decode bMo_doRow 270 = .ok (.if_icmp .ne 23, 3) := by decide +kernel
theorem dMo_doRow_273 : decode bMo_doRow 273 = .ok (.aload_n 0, 1) := by decide +kernel
theorem dMo_doRow_274 : decode bMo_doRow 274 = .ok (.getfield 122, 3) := by decide +kernel
theorem dMo_doRow_277 : decode bMo_doRow 277 = .ok (.ldc2_w 120, 3) := by decide +kernel
theorem dMo_doRow_280 : decode bMo_doRow 280 = .ok (.iconst 4, 1) := by decide +kernel
theorem dMo_doRow_281 : decode bMo_doRow 281 = .ok (.iload 4, 2) := by decide +kernel
theorem dMo_doRow_283 : decode bMo_doRow 283 = .ok (.imul, 1) := by decide +kernel
theorem dMo_doRow_284 : decode bMo_doRow 284 = .ok (.lshl, 1) := by decide +kernel
theorem dMo_doRow_285 : decode bMo_doRow 285 = .ok (.ldc2_w 141, 3) := by decide +kernel
theorem dMo_doRow_288 : decode bMo_doRow 288 = .ok (.lxor, 1) := by decide +kernel
theorem dMo_doRow_289 : decode bMo_doRow 289 = .ok (.land, 1) := by decide +kernel
theorem dMo_doRow_290 : decode bMo_doRow 290 = .ok (.goto 9, 3) := by decide +kernel
theorem dMo_doRow_293 : decode bMo_doRow 293 = .ok (.aload_n 0, 1) := by decide +kernel
theorem dMo_doRow_294 : decode bMo_doRow 294 = .ok (.getfield 122, 3) := by decide +kernel
theorem dMo_doRow_297 : decode bMo_doRow 297 = .ok (.iconst 4, 1) := by decide +kernel
theorem dMo_doRow_298 : decode bMo_doRow 298 = .ok (.lushr, 1) := by decide +kernel
theorem dMo_doRow_299 : decode bMo_doRow 299 = .ok (.putfield 122, 3) := by decide +kernel
theorem dMo_doRow_302 : decode bMo_doRow 302 = .ok (.aload_n 0, 1) := by decide +kernel
theorem dMo_doRow_303 : decode bMo_doRow 303 = .ok (.dup, 1) := by decide +kernel
theorem dMo_doRow_304 : decode bMo_doRow 304 = .ok (.getfield 129, 3) := by decide +kernel
theorem dMo_doRow_307 : decode bMo_doRow 307 = .ok (.iconst 1, 1) := by decide +kernel
theorem dMo_doRow_308 : decode bMo_doRow 308 = .ok (.isub, 1) := by decide +kernel
theorem dMo_doRow_309 : decode bMo_doRow 309 = .ok (.putfield 129, 3) := by decide +kernel
theorem dMo_doRow_312 : decode bMo_doRow 312 = .ok (.return_, 1) := by decide +kernel
theorem dMo_thing_0 : decode bMo_thing 0 = .ok (.lload_n 0, 1) := by decide +kernel
theorem dMo_thing_1 : decode bMo_thing 1 = .ok (.iconst 4, 1) := by decide +kernel
theorem dMo_thing_2 : decode bMo_thing 2 = .ok (.iload_n 2, 1) := by decide +kernel
theorem dMo_thing_3 : decode bMo_thing 3 = .ok (.imul, 1) := by decide +kernel
theorem dMo_thing_4 : decode bMo_thing 4 = .ok (.lushr, 1) := by decide +kernel
theorem dMo_thing_5 : decode bMo_thing 5 = .ok (.ldc2_w 120, 3) := by decide +kernel
theorem dMo_thing_8 : decode bMo_thing 8 = .ok (.land, 1) := by decide +kernel
theorem dMo_thing_9 : decode bMo_thing 9 = .ok (.l2i, 1) := by decide +kernel
theorem dMo_thing_10 : decode bMo_thing 10 = .ok (.ireturn, 1) := by decide +kernel
theorem dMo_search_0 : decode bMo_search 0 = .ok (.iload_n 1, 1) := by decide +kernel
theorem dMo_search_1 : decode bMo_search 1 = .ok (.istore 4, 2) := by decide +kernel
theorem dMo_search_3 : decode bMo_search 3 = .ok (.iload 4, 2) := by decide +kernel
theorem dMo_search_5 : decode bMo_search 5 = .ok (.iload_n 2, 1) := by decide +kernel
theorem dMo_search_6 : decode bMo_search 6 = .ok (.if_icmp .ge 35, 3) := by decide +kernel
theorem dMo_search_9 : decode bMo_search 9 = .ok (.aload_n 0, 1) := by decide +kernel
theorem dMo_search_10 : decode bMo_search 10 = .ok (.getfield 46, 3) := by decide +kernel
theorem dMo_search_13 : decode bMo_search 13 = .ok (.iload 4, 2) := by decide +kernel
theorem dMo_search_15 : decode bMo_search 15 = .ok (.iaload, 1) := by decide +kernel
theorem dMo_search_16 : decode bMo_search 16 = .ok (.iload_n 3, 1) := by decide +kernel
theorem dMo_search_17 : decode bMo_search 17 = .ok (.if_icmp .ne 18, 3) := by decide +kernel
theorem dMo_search_20 : decode bMo_search 20 = .ok (.aload_n 0, 1) := by decide +kernel
theorem dMo_search_21 : decode bMo_search 21 = .ok (.getfield 49, 3) := by decide +kernel
theorem dMo_search_24 : decode bMo_search 24 = .ok (.iload 4, 2) := by decide +kernel
theorem dMo_search_26 : decode bMo_search 26 = .ok (.laload, 1) := by decide +kernel
theorem dMo_search_27 : decode bMo_search 27 = .ok (.aload_n 0, 1) := by decide +kernel
theorem dMo_search_28 : decode bMo_search 28 = .ok (.getfield 122, 3) := by decide +kernel
theorem dMo_search_31 : decode bMo_search 31 = .ok (.lcmp, 1) := by decide +kernel
theorem dMo_search_32 : decode bMo_search 32 = .ok (.ifCond .eq 9, 3) := by decide +kernel
theorem dMo_search_35 : decode bMo_search 35 = .ok (.iinc 4 1, 3) := by decide +kernel
theorem dMo_search_38 : decode bMo_search 38 = .ok (.goto (-35), 3) := by decide +kernel
theorem dMo_search_41 : decode bMo_search 41 = .ok (.iload 4, 2) := by decide +kernel
theorem dMo_search_43 : decode bMo_search 43 = .ok (.ireturn, 1) := by decide +kernel
theorem dMo_judgeOf_0 : decode bMo_judgeOf 0 = .ok (.iload_n 3, 1) := by decide +kernel
theorem dMo_judgeOf_1 : decode bMo_judgeOf 1 = .ok (.bipush (-2), 2) := by decide +kernel
theorem dMo_judgeOf_3 : decode bMo_judgeOf 3 = .ok (.if_icmp .ne 6, 3) := by decide +kernel
theorem dMo_judgeOf_6 : decode bMo_judgeOf 6 = .ok (.bipush (-2), 2) := by decide +kernel
theorem dMo_judgeOf_8 : decode bMo_judgeOf 8 = .ok (.ireturn, 1) := by decide +kernel
theorem dMo_judgeOf_9 : decode bMo_judgeOf 9 = .ok (.iconst 0, 1) := by decide +kernel
theorem dMo_judgeOf_10 : decode bMo_judgeOf 10 = .ok (.istore 5, 2) := by decide +kernel
theorem dMo_judgeOf_12 : decode bMo_judgeOf 12 = .ok (.iload 5, 2) := by decide +kernel
theorem dMo_judgeOf_14 : decode bMo_judgeOf 14 = .ok (.iload_n 3, 1) := by decide +kernel
theorem dMo_judgeOf_15 : decode bMo_judgeOf 15 = .ok (.if_icmp .ge 25, 3) := by decide +kernel
theorem dMo_judgeOf_18 : decode bMo_judgeOf 18 = .ok (.aload_n 0, 1) := by decide +kernel
theorem dMo_judgeOf_19 : decode bMo_judgeOf 19 = .ok (.iload_n 1, 1) := by decide +kernel
theorem dMo_judgeOf_20 : decode bMo_judgeOf 20 = .ok (.iload_n 2, 1) := by decide +kernel
theorem dMo_judgeOf_21 : decode bMo_judgeOf 21 = .ok (.iload 5, 2) := by decide +kernel
theorem dMo_judgeOf_23 : decode bMo_judgeOf 23 = .ok (.iadd, 1) := by decide +kernel
theorem dMo_judgeOf_24 : decode bMo_judgeOf 24 = .ok (.iload 4, 2) := by decide +kernel
theorem dMo_judgeOf_26 : decode bMo_judgeOf 26 = .ok (.invokevirtual 181, 3) := by decide +kernel
theorem dMo_judgeOf_29 : decode bMo_judgeOf 29 = .ok (.ifCond .eq 5, 3) := by decide +kernel
theorem dMo_judgeOf_32 : decode bMo_judgeOf 32 = .ok (.iconst 1, 1) := by decide +kernel
theorem dMo_judgeOf_33 : decode bMo_judgeOf 33 = .ok (.ireturn, 1) := by decide +kernel
theorem dMo_judgeOf_34 : decode bMo_judgeOf 34 = .ok (.iinc 5 1, 3) := by decide +kernel
theorem dMo_judgeOf_37 : decode bMo_judgeOf 37 = .ok (.goto (-25), 3) := by decide +kernel
theorem dMo_judgeOf_40 : decode bMo_judgeOf 40 = .ok (.iconst 0, 1) := by decide +kernel
theorem dMo_judgeOf_41 : decode bMo_judgeOf 41 = .ok (.ireturn, 1) := by decide +kernel
theorem dMo_isEnd_0 : decode bMo_isEnd 0 = .ok (.iconst 0, 1) := by decide +kernel
theorem dMo_isEnd_1 : decode bMo_isEnd 1 = .ok (.istore 4, 2) := by decide +kernel
theorem dMo_isEnd_3 : decode bMo_isEnd 3 = .ok (.iload 4, 2) := by decide +kernel
theorem dMo_isEnd_5 : decode bMo_isEnd 5 = .ok (.aload_n 0, 1) := by decide +kernel
theorem dMo_isEnd_6 : decode bMo_isEnd 6 = .ok (.getfield 13, 3) := by decide +kernel
theorem dMo_isEnd_9 : decode bMo_isEnd 9 = .ok (.iload_n 1, 1) := by decide +kernel
theorem dMo_isEnd_10 : decode bMo_isEnd 10 = .ok (.iaload, 1) := by decide +kernel
theorem dMo_isEnd_11 : decode bMo_isEnd 11 = .ok (.if_icmp .ge 45, 3) := by decide +kernel
theorem dMo_isEnd_14 : decode bMo_isEnd 14 = .ok (.aload_n 0, 1) := by decide +kernel
theorem dMo_isEnd_15 : decode bMo_isEnd 15 = .ok (.getfield 46, 3) := by decide +kernel
theorem dMo_isEnd_18 : decode bMo_isEnd 18 = .ok (.iload_n 2, 1) := by decide +kernel
theorem dMo_isEnd_19 : decode bMo_isEnd 19 = .ok (.iaload, 1) := by decide +kernel
theorem dMo_isEnd_20 : decode bMo_isEnd 20 = .ok (.iload 4, 2) := by decide +kernel
theorem dMo_isEnd_22 : decode bMo_isEnd 22 = .ok (.ishr, 1) := by decide +kernel
theorem dMo_isEnd_23 : decode bMo_isEnd 23 = .ok (.iconst 1, 1) := by decide +kernel
theorem dMo_isEnd_24 : decode bMo_isEnd 24 = .ok (.iand, 1) := by decide +kernel
theorem dMo_isEnd_25 : decode bMo_isEnd 25 = .ok (.ifCond .ne 25, 3) := by decide +kernel
theorem dMo_isEnd_28 : decode bMo_isEnd 28 = .ok (.aload_n 0, 1) := by decide +kernel
theorem dMo_isEnd_29 : decode bMo_isEnd 29 = .ok (.aload_n 0, 1) := by decide +kernel
theorem dMo_isEnd_30 : decode bMo_isEnd 30 = .ok (.getfield 16, 3) := by decide +kernel
theorem dMo_isEnd_33 : decode bMo_isEnd 33 = .ok (.bipush 16, 2) := by decide +kernel
theorem dMo_isEnd_35 : decode bMo_isEnd 35 = .ok (.iload_n 1, 1) := by decide +kernel
theorem dMo_isEnd_36 : decode bMo_isEnd 36 = .ok (.imul, 1) := by decide +kernel
theorem dMo_isEnd_37 : decode bMo_isEnd 37 = .ok (.iload 4, 2) := by decide +kernel
theorem dMo_isEnd_39 : decode bMo_isEnd 39 = .ok (.iadd, 1) := by decide +kernel
theorem dMo_isEnd_40 : decode bMo_isEnd 40 = .ok (.iaload, 1) := by decide +kernel
theorem dMo_isEnd_41 : decode bMo_isEnd 41 = .ok (.iload_n 3, 1) := by decide +kernel
theorem dMo_isEnd_42 : decode bMo_isEnd 42 = .ok (.invokevirtual 161, 3) := by decide +kernel
theorem dMo_isEnd_45 : decode bMo_isEnd 45 = .ok (.ifCond .eq 5, 3) := by decide +kernel
theorem dMo_isEnd_48 : decode bMo_isEnd 48 = .ok (.iconst 0, 1) := by decide +kernel
theorem dMo_isEnd_49 : decode bMo_isEnd 49 = .ok (.ireturn, 1) := by decide +kernel
theorem dMo_isEnd_50 : decode bMo_isEnd 50 = .ok (.iinc 4 1, 3) := by decide +kernel
theorem dMo_isEnd_53 : decode bMo_isEnd 53 = .ok (.goto (-50), 3) := by decide +kernel
theorem dMo_isEnd_56 : decode bMo_isEnd 56 = .ok (.iconst 1, 1) := by decide +kernel
theorem dMo_isEnd_57 : decode bMo_isEnd 57 = .ok (.ireturn, 1) := by decide +kernel
theorem dMo_judge_0 : decode bMo_judge 0 = .ok (.aload_n 0, 1) := by decide +kernel
theorem dMo_judge_1 : decode bMo_judge 1 = .ok (.aload_n 0, 1) := by decide +kernel
theorem dMo_judge_2 : decode bMo_judge 2 = .ok (.iload_n 1, 1) := by decide +kernel
theorem dMo_judge_3 : decode bMo_judge 3 = .ok (.invokevirtual 107, 3) := by decide +kernel
theorem dMo_judge_6 : decode bMo_judge 6 = .ok (.ifCond .eq 7, 3) := by decide +kernel
theorem dMo_judge_9 : decode bMo_judge 9 = .ok (.iconst 1, 1) := by decide +kernel
theorem dMo_judge_10 : decode bMo_judge 10 = .ok (.goto 4, 3) := by decide +kernel
theorem dMo_judge_13 : decode bMo_judge 13 = .ok (.iconst 0, 1) := by decide +kernel
theorem dMo_judge_14 : decode bMo_judge 14 = .ok (.putfield 93, 3) := by decide +kernel
theorem dMo_judge_17 : decode bMo_judge 17 = .ok (.aload_n 0, 1) := by decide +kernel
theorem dMo_judge_18 : decode bMo_judge 18 = .ok (.getfield 93, 3) := by decide +kernel
theorem dMo_judge_21 : decode bMo_judge 21 = .ok (.ifCond .le 5, 3) := by decide +kernel
theorem dMo_judge_24 : decode bMo_judge 24 = .ok (.iconst 0, 1) := by decide +kernel
theorem dMo_judge_25 : decode bMo_judge 25 = .ok (.ireturn, 1) := by decide +kernel
theorem dMo_judge_26 : decode bMo_judge 26 = .ok (.aload_n 0, 1) := by decide +kernel
theorem dMo_judge_27 : decode bMo_judge 27 = .ok (.iload_n 1, 1) := by decide +kernel
theorem dMo_judge_28 : decode bMo_judge 28 = .ok (.invokevirtual 195, 3) := by decide +kernel
theorem dMo_judge_31 : decode bMo_judge 31 = .ok (.aload_n 0, 1) := by decide +kernel
theorem dMo_judge_32 : decode bMo_judge 32 = .ok (.getfield 66, 3) := by decide +kernel
theorem dMo_judge_35 : decode bMo_judge 35 = .ok (.iload_n 1, 1) := by decide +kernel
theorem dMo_judge_36 : decode bMo_judge 36 = .ok (.iaload, 1) := by decide +kernel
theorem dMo_judge_37 : decode bMo_judge 37 = .ok (.ireturn, 1) := by decide +kernel
theorem dMo_judgeOwn_0 : decode bMo_judgeOwn 0 = .ok (.aload_n 0, 1) := by decide +kernel
theorem dMo_judgeOwn_1 : decode bMo_judgeOwn 1 = .ok (.aload_n 0, 1) := by decide +kernel
theorem dMo_judgeOwn_2 : decode bMo_judgeOwn 2 = .ok (.iload_n 1, 1) := by decide +kernel
theorem dMo_judgeOwn_3 : decode bMo_judgeOwn 3 = .ok (.invokevirtual 107, 3) := by decide +kernel
theorem dMo_judgeOwn_6 : decode bMo_judgeOwn 6 = .ok (.ifCond .eq 7, 3) := by decide +kernel
theorem dMo_judgeOwn_9 : decode bMo_judgeOwn 9 = .ok (.iconst 1, 1) := by decide +kernel
theorem dMo_judgeOwn_10 : decode bMo_judgeOwn 10 = .ok (.goto 4, 3) := by decide +kernel
theorem dMo_judgeOwn_13 : decode bMo_judgeOwn 13 = .ok (.iconst 0, 1) := by decide +kernel
theorem dMo_judgeOwn_14 : decode bMo_judgeOwn 14 = .ok (.putfield 93, 3) := by decide +kernel
theorem dMo_judgeOwn_17 : decode bMo_judgeOwn 17 = .ok (.aload_n 0, 1) := by decide +kernel
theorem dMo_judgeOwn_18 : decode bMo_judgeOwn 18 = .ok (.getfield 93, 3) := by decide +kernel
theorem dMo_judgeOwn_21 : decode bMo_judgeOwn 21 = .ok (.ifCond .le 5, 3) := by decide +kernel
theorem dMo_judgeOwn_24 : decode bMo_judgeOwn 24 = .ok (.iconst 0, 1) := by decide +kernel
theorem dMo_judgeOwn_25 : decode bMo_judgeOwn 25 = .ok (.ireturn, 1) := by decide +kernel
theorem dMo_judgeOwn_26 : decode bMo_judgeOwn 26 = .ok (.aload_n 0, 1) := by decide +kernel
theorem dMo_judgeOwn_27 : decode bMo_judgeOwn 27 = .ok (.iload_n 1, 1) := by decide +kernel
theorem dMo_judgeOwn_28 : decode bMo_judgeOwn 28 = .ok (.sipush 12006, 3) := by decide +kernel
theorem dMo_judgeOwn_31 : decode bMo_judgeOwn 31 = .ok (.aload_n 0, 1) := by decide +kernel
theorem dMo_judgeOwn_32 : decode bMo_judgeOwn 32 = .ok (.getfield 114, 3) := by decide +kernel
theorem dMo_judgeOwn_35 : decode bMo_judgeOwn 35 = .ok (.iconst 1, 1) := by decide +kernel
theorem dMo_judgeOwn_36 : decode bMo_judgeOwn 36 = .ok (.invokevirtual 185, 3) := by decide +kernel
theorem dMo_judgeOwn_39 : decode bMo_judgeOwn 39 = .ok (.istore_n 2, 1) := by decide +kernel
theorem dMo_judgeOwn_40 : decode bMo_judgeOwn 40 = .ok (.aload_n 0, 1) := by decide +kernel
theorem dMo_judgeOwn_41 : decode bMo_judgeOwn 41 = .ok (.iload_n 1, 1) := by decide +kernel
theorem dMo_judgeOwn_42 : decode bMo_judgeOwn 42 = .ok (.sipush 12006, 3) := by decide +kernel
theorem dMo_judgeOwn_45 : decode bMo_judgeOwn 45 = .ok (.iload_n 2, 1) := by decide +kernel
theorem dMo_judgeOwn_46 : decode bMo_judgeOwn 46 = .ok (.aload_n 0, 1) := by decide +kernel
theorem dMo_judgeOwn_47 : decode bMo_judgeOwn 47 = .ok (.getfield 114, 3) := by decide +kernel
theorem dMo_judgeOwn_50 : decode bMo_judgeOwn 50 = .ok (.invokevirtual 189, 3) := by decide +kernel
theorem dMo_judgeOwn_53 : decode bMo_judgeOwn 53 = .ok (.ireturn, 1) := by decide +kernel
end
section
theorem dMo_ways_0 : decode bMo_ways 0 = .ok (.aload_n 0, 1) := by decide +kernel
theorem dMo_ways_1 : decode bMo_ways 1 = .ok (.aload_n 0, 1) := by decide +kernel
theorem dMo_ways_2 : decode bMo_ways 2 = .ok (.iload_n 1, 1) := by decide +kernel
theorem dMo_ways_3 : decode bMo_ways 3 = .ok (.invokevirtual 107, 3) := by decide +kernel
theorem dMo_ways_6 : decode bMo_ways 6 = .ok (.ifCond .eq 7, 3) := by decide +kernel
theorem dMo_ways_9 : decode bMo_ways 9 = .ok (.iconst 1, 1) := by decide +kernel
theorem dMo_ways_10 : decode bMo_ways 10 = .ok (.goto 4, 3) := by decide +kernel
theorem dMo_ways_13 : decode bMo_ways 13 = .ok (.iconst 0, 1) := by decide +kernel
theorem dMo_ways_14 : decode bMo_ways 14 = .ok (.putfield 93, 3) := by decide +kernel
theorem dMo_ways_17 : decode bMo_ways 17 = .ok (.aload_n 0, 1) := by decide +kernel
theorem dMo_ways_18 : decode bMo_ways 18 = .ok (.getfield 93, 3) := by decide +kernel
theorem dMo_ways_21 : decode bMo_ways 21 = .ok (.ifCond .le 5, 3) := by decide +kernel
theorem dMo_ways_24 : decode bMo_ways 24 = .ok (.lconst 0, 1) := by decide +kernel
theorem dMo_ways_25 : decode bMo_ways 25 = .ok (.lreturn, 1) := by decide +kernel
theorem dMo_ways_26 : decode bMo_ways 26 = .ok (.aload_n 0, 1) := by decide +kernel
theorem dMo_ways_27 : decode bMo_ways 27 = .ok (.iload_n 1, 1) := by decide +kernel
theorem dMo_ways_28 : decode bMo_ways 28 = .ok (.invokevirtual 195, 3) := by decide +kernel
theorem dMo_ways_31 : decode bMo_ways 31 = .ok (.aload_n 0, 1) := by decide +kernel
theorem dMo_ways_32 : decode bMo_ways 32 = .ok (.getfield 69, 3) := by decide +kernel
theorem dMo_ways_35 : decode bMo_ways 35 = .ok (.iload_n 1, 1) := by decide +kernel
theorem dMo_ways_36 : decode bMo_ways 36 = .ok (.laload, 1) := by decide +kernel
theorem dMo_ways_37 : decode bMo_ways 37 = .ok (.lreturn, 1) := by decide +kernel
theorem dMo_lasts_0 : decode bMo_lasts 0 = .ok (.aload_n 0, 1) := by decide +kernel
theorem dMo_lasts_1 : decode bMo_lasts 1 = .ok (.aload_n 0, 1) := by decide +kernel
theorem dMo_lasts_2 : decode bMo_lasts 2 = .ok (.iload_n 1, 1) := by decide +kernel
theorem dMo_lasts_3 : decode bMo_lasts 3 = .ok (.invokevirtual 107, 3) := by decide +kernel
theorem dMo_lasts_6 : decode bMo_lasts 6 = .ok (.ifCond .eq 7, 3) := by decide +kernel
theorem dMo_lasts_9 : decode bMo_lasts 9 = .ok (.iconst 1, 1) := by decide +kernel
theorem dMo_lasts_10 : decode bMo_lasts 10 = .ok (.goto 4, 3) := by decide +kernel
theorem dMo_lasts_13 : decode bMo_lasts 13 = .ok (.iconst 0, 1) := by decide +kernel
theorem dMo_lasts_14 : decode bMo_lasts 14 = .ok (.putfield 93, 3) := by decide +kernel
theorem dMo_lasts_17 : decode bMo_lasts 17 = .ok (.aload_n 0, 1) := by decide +kernel
theorem dMo_lasts_18 : decode bMo_lasts 18 = .ok (.getfield 93, 3) := by decide +kernel
theorem dMo_lasts_21 : decode bMo_lasts 21 = .ok (.ifCond .le 5, 3) := by decide +kernel
theorem dMo_lasts_24 : decode bMo_lasts 24 = .ok (.iconst 0, 1) := by decide +kernel
theorem dMo_lasts_25 : decode bMo_lasts 25 = .ok (.ireturn, 1) := by decide +kernel
theorem dMo_lasts_26 : decode bMo_lasts 26 = .ok (.aload_n 0, 1) := by decide +kernel
theorem dMo_lasts_27 : decode bMo_lasts 27 = .ok (.iload_n 1, 1) := by decide +kernel
theorem dMo_lasts_28 : decode bMo_lasts 28 = .ok (.invokevirtual 195, 3) := by decide +kernel
theorem dMo_lasts_31 : decode bMo_lasts 31 = .ok (.aload_n 0, 1) := by decide +kernel
theorem dMo_lasts_32 : decode bMo_lasts 32 = .ok (.getfield 72, 3) := by decide +kernel
theorem dMo_lasts_35 : decode bMo_lasts 35 = .ok (.iload_n 1, 1) := by decide +kernel
theorem dMo_lasts_36 : decode bMo_lasts 36 = .ok (.iaload, 1) := by decide +kernel
theorem dMo_lasts_37 : decode bMo_lasts 37 = .ok (.ireturn, 1) := by decide +kernel
theorem dMo_broken_0 : decode bMo_broken 0 = .ok (.aload_n 0, 1) := by decide +kernel
theorem dMo_broken_1 : decode bMo_broken 1 = .ok (.aload_n 0, 1) := by decide +kernel
theorem dMo_broken_2 : decode bMo_broken 2 = .ok (.iload_n 1, 1) := by decide +kernel
theorem dMo_broken_3 : decode bMo_broken 3 = .ok (.invokevirtual 107, 3) := by decide +kernel
theorem dMo_broken_6 : decode bMo_broken 6 = .ok (.ifCond .eq 7, 3) := by decide +kernel
theorem dMo_broken_9 : decode bMo_broken 9 = .ok (.iconst 1, 1) := by decide +kernel
theorem dMo_broken_10 : decode bMo_broken 10 = .ok (.goto 4, 3) := by decide +kernel
theorem dMo_broken_13 : decode bMo_broken 13 = .ok (.iconst 0, 1) := by decide +kernel
theorem dMo_broken_14 : decode bMo_broken 14 = .ok (.putfield 93, 3) := by decide +kernel
theorem dMo_broken_17 : decode bMo_broken 17 = .ok (.aload_n 0, 1) := by decide +kernel
theorem dMo_broken_18 : decode bMo_broken 18 = .ok (.getfield 93, 3) := by decide +kernel
theorem dMo_broken_21 : decode bMo_broken 21 = .ok (.ifCond .le 5, 3) := by decide +kernel
theorem dMo_broken_24 : decode bMo_broken 24 = .ok (.iconst 0, 1) := by decide +kernel
theorem dMo_broken_25 : decode bMo_broken 25 = .ok (.ireturn, 1) := by decide +kernel
theorem dMo_broken_26 : decode bMo_broken 26 = .ok (.aload_n 0, 1) := by decide +kernel
theorem dMo_broken_27 : decode bMo_broken 27 = .ok (.getfield 78, 3) := by decide +kernel
theorem dMo_broken_30 : decode bMo_broken 30 = .ok (.iload_n 1, 1) := by decide +kernel
theorem dMo_broken_31 : decode bMo_broken 31 = .ok (.baload, 1) := by decide +kernel
theorem dMo_broken_32 : decode bMo_broken 32 = .ok (.ifCond .ne 86, 3) := by decide +kernel
theorem dMo_broken_35 : decode bMo_broken 35 = .ok (.aload_n 0, 1) := by decide +kernel
theorem dMo_broken_36 : decode bMo_broken 36 = .ok (.getfield 75, 3) := by decide +kernel
theorem dMo_broken_39 : decode bMo_broken 39 = .ok (.iload_n 1, 1) := by decide +kernel
theorem dMo_broken_40 : decode bMo_broken 40 = .ok (.iconst (-1), 1) := by decide +kernel
theorem dMo_broken_41 : decode bMo_broken 41 = .ok (.iastore, 1) := by decide +kernel
theorem dMo_broken_42 : decode bMo_broken 42 = .ok (.iconst 1, 1) := by decide +kernel
theorem dMo_broken_43 : decode bMo_broken 43 = .ok (.istore_n 2, 1) := by decide +kernel
theorem dMo_broken_44 : decode bMo_broken 44 = .ok (.iload_n 2, 1) := by decide +kernel
theorem dMo_broken_45 : decode bMo_broken 45 = .ok (.aload_n 0, 1) := by decide +kernel
theorem dMo_broken_46 : decode bMo_broken 46 = .ok (.getfield 114, 3) := by decide +kernel
theorem dMo_broken_49 : decode bMo_broken 49 = .ok (.if_icmp .gt 62, 3) := by decide +kernel
theorem dMo_broken_52 : decode bMo_broken 52 = .ok (.aload_n 0, 1) := by decide +kernel
theorem dMo_broken_53 : decode bMo_broken 53 = .ok (.getfield 75, 3) := by decide +kernel
theorem dMo_broken_56 : decode bMo_broken 56 = .ok (.iload_n 1, 1) := by decide +kernel
theorem dMo_broken_57 : decode bMo_broken 57 = .ok (.iaload, 1) := by decide +kernel
theorem dMo_broken_58 : decode bMo_broken 58 = .ok (.ifCond .ge 53, 3) := by decide +kernel
theorem dMo_broken_61 : decode bMo_broken 61 = .ok (.aload_n 0, 1) := by decide +kernel
theorem dMo_broken_62 : decode bMo_broken 62 = .ok (.iload_n 1, 1) := by decide +kernel
theorem dMo_broken_63 : decode bMo_broken 63 = .ok (.iload_n 2, 1) := by decide +kernel
theorem dMo_broken_64 : decode bMo_broken 64 = .ok (.invokevirtual 199, 3) := by decide +kernel
theorem dMo_broken_67 : decode bMo_broken 67 = .ok (.ifCond .eq 38, 3) := by decide +kernel
theorem dMo_broken_70 : decode bMo_broken 70 = .ok (.aload_n 0, 1) := by decide +kernel
theorem dMo_broken_71 : decode bMo_broken 71 = .ok (.iload_n 1, 1) := by decide +kernel
theorem dMo_broken_72 : decode bMo_broken 72 = .ok (.sipush 12006, 3) := by decide +kernel
theorem dMo_broken_75 : decode bMo_broken 75 = .ok (.iload_n 2, 1) := by decide +kernel
theorem dMo_broken_76 : decode bMo_broken 76 = .ok (.iconst 0, 1) := by decide +kernel
theorem dMo_broken_77 : decode bMo_broken 77 = .ok (.invokevirtual 185, 3) := by decide +kernel
theorem dMo_broken_80 : decode bMo_broken 80 = .ok (.istore_n 3, 1) := by decide +kernel
theorem dMo_broken_81 : decode bMo_broken 81 = .ok (.aload_n 0, 1) := by decide +kernel
theorem dMo_broken_82 : decode bMo_broken 82 = .ok (.getfield 75, 3) := by decide +kernel
theorem dMo_broken_85 : decode bMo_broken 85 = .ok (.iload_n 1, 1) := by decide +kernel
theorem dMo_broken_86 : decode bMo_broken 86 = .ok (.aload_n 0, 1) := by decide +kernel
theorem dMo_broken_87 : decode bMo_broken 87 = .ok (.iload_n 1, 1) := by decide +kernel
theorem dMo_broken_88 : decode bMo_broken 88 = .ok (.sipush 12006, 3) := by decide +kernel
theorem dMo_broken_91 : decode bMo_broken 91 = .ok (.iload_n 3, 1) := by decide +kernel
theorem dMo_broken_92 : decode bMo_broken 92 = .ok (.iload_n 2, 1) := by decide +kernel
theorem dMo_broken_93 : decode bMo_broken 93 = .ok (.invokevirtual 189, 3) := by decide +kernel
theorem dMo_broken_96 : decode bMo_broken 96 = .ok (.ifCond .ne 7, 3) := by decide +kernel
theorem dMo_broken_99 : decode bMo_broken 99 = .ok (.iload_n 2, 1) := by decide +kernel
theorem dMo_broken_100 : decode bMo_broken 100 = .ok (.goto 4, 3) := by decide +kernel
theorem dMo_broken_103 : decode bMo_broken 103 = .ok (.iconst (-1), 1) := by decide +kernel
theorem dMo_broken_104 : decode bMo_broken 104 = .ok (.iastore, 1) := by decide +kernel
theorem dMo_broken_105 : decode bMo_broken 105 = .ok (.iinc 2 1, 3) := by decide +kernel
theorem dMo_broken_108 : decode bMo_broken 108 = .ok (.goto (-64), 3) := by decide +kernel
theorem dMo_broken_111 : decode bMo_broken 111 = .ok (.aload_n 0, 1) := by decide +kernel
theorem dMo_broken_112 : decode bMo_broken 112 = .ok (.getfield 78, 3) := by decide +kernel
theorem dMo_broken_115 : decode bMo_broken 115 = .ok (.iload_n 1, 1) := by decide +kernel
theorem dMo_broken_116 : decode bMo_broken 116 = .ok (.iconst 1, 1) := by decide +kernel
theorem dMo_broken_117 : decode bMo_broken 117 = .ok (.bastore, 1) := by decide +kernel
theorem dMo_broken_118 : decode bMo_broken 118 = .ok (.aload_n 0, 1) := by decide +kernel
theorem dMo_broken_119 : decode bMo_broken 119 = .ok (.getfield 75, 3) := by decide +kernel
theorem dMo_broken_122 : decode bMo_broken 122 = .ok (.iload_n 1, 1) := by decide +kernel
theorem dMo_broken_123 : decode bMo_broken 123 = .ok (.iaload, 1) := by decide +kernel
theorem dMo_broken_124 : decode bMo_broken 124 = .ok (.ireturn, 1) := by decide +kernel
theorem dMo_isTouched_0 : decode bMo_isTouched 0 = .ok (.iconst 0, 1) := by decide +kernel
theorem dMo_isTouched_1 : decode bMo_isTouched 1 = .ok (.istore_n 3, 1) := by decide +kernel
theorem dMo_isTouched_2 : decode bMo_isTouched 2 = .ok (.iload_n 3, 1) := by decide +kernel
theorem dMo_isTouched_3 : decode bMo_isTouched 3 = .ok (.aload_n 0, 1) := by decide +kernel
theorem dMo_isTouched_4 : decode bMo_isTouched 4 = .ok (.getfield 13, 3) := by decide +kernel
theorem dMo_isTouched_7 : decode bMo_isTouched 7 = .ok (.iload_n 1, 1) := by decide +kernel
theorem dMo_isTouched_8 : decode bMo_isTouched 8 = .ok (.iaload, 1) := by decide +kernel
theorem dMo_isTouched_9 : decode bMo_isTouched 9 = .ok (.if_icmp .ge 46, 3) := by decide +kernel
theorem dMo_isTouched_12 : decode bMo_isTouched 12 = .ok (.aload_n 0, 1) := by decide +kernel
theorem dMo_isTouched_13 : decode bMo_isTouched 13 = .ok (.getfield 16, 3) := by decide +kernel
theorem dMo_isTouched_16 : decode bMo_isTouched 16 = .ok (.bipush 16, 2) := by decide +kernel
theorem dMo_isTouched_18 : decode bMo_isTouched 18 = .ok (.iload_n 1, 1) := by decide +kernel
theorem dMo_isTouched_19 : decode bMo_isTouched 19 = .ok (.imul, 1) := by decide +kernel
theorem dMo_isTouched_20 : decode bMo_isTouched 20 = .ok (.iload_n 3, 1) := by decide +kernel
theorem dMo_isTouched_21 : decode bMo_isTouched 21 = .ok (.iadd, 1) := by decide +kernel
theorem dMo_isTouched_22 : decode bMo_isTouched 22 = .ok (.iaload, 1) := by decide +kernel
theorem dMo_isTouched_23 : decode bMo_isTouched 23 = .ok (.istore 4, 2) := by decide +kernel
theorem dMo_isTouched_25 : decode bMo_isTouched 25 = .ok (.aload_n 0, 1) := by decide +kernel
theorem dMo_isTouched_26 : decode bMo_isTouched 26 = .ok (.getfield 37, 3) := by decide +kernel
theorem dMo_isTouched_29 : decode bMo_isTouched 29 = .ok (.iload 4, 2) := by decide +kernel
theorem dMo_isTouched_31 : decode bMo_isTouched 31 = .ok (.iaload, 1) := by decide +kernel
theorem dMo_isTouched_32 : decode bMo_isTouched 32 = .ok (.iload_n 2, 1) := by decide +kernel
theorem dMo_isTouched_33 : decode bMo_isTouched 33 = .ok (.if_icmp .eq 14, 3) := by decide +kernel
theorem dMo_isTouched_36 : decode bMo_isTouched 36 = .ok (.aload_n 0, 1) := by decide +kernel
theorem dMo_isTouched_37 : decode bMo_isTouched 37 = .ok (.getfield 40, 3) := by decide +kernel
theorem dMo_isTouched_40 : decode bMo_isTouched 40 = .ok (.iload 4, 2) := by decide +kernel
theorem dMo_isTouched_42 : decode bMo_isTouched 42 = .ok (.iaload, 1) := by decide +kernel
theorem dMo_isTouched_43 : decode bMo_isTouched 43 = .ok (.iload_n 2, 1) := by decide +kernel
theorem dMo_isTouched_44 : decode bMo_isTouched 44 = .ok (.if_icmp .ne 5, 3) := by decide +kernel
theorem dMo_isTouched_47 : decode bMo_isTouched 47 = .ok (.iconst 1, 1) := by decide +kernel
theorem dMo_isTouched_48 : decode bMo_isTouched 48 = .ok (.ireturn, 1) := by decide +kernel
theorem dMo_isTouched_49 : decode bMo_isTouched 49 = .ok (.iinc 3 1, 3) := by decide +kernel
theorem dMo_isTouched_52 : decode bMo_isTouched 52 = .ok (.goto (-50), 3) := by decide +kernel
theorem dMo_isTouched_55 : decode bMo_isTouched 55 = .ok (.iconst 0, 1) := by decide +kernel
theorem dMo_isTouched_56 : decode bMo_isTouched 56 = .ok (.ireturn, 1) := by decide +kernel
theorem dMo_linear_0 : decode bMo_linear 0 = .ok (.aload_n 0, 1) := by decide +kernel
theorem dMo_linear_1 : decode bMo_linear 1 = .ok (.iconst 0, 1) := by decide +kernel
theorem dMo_linear_2 : decode bMo_linear 2 = .ok (.putfield 93, 3) := by decide +kernel
theorem dMo_linear_5 : decode bMo_linear 5 = .ok (.aload_n 0, 1) := by decide +kernel
theorem dMo_linear_6 : decode bMo_linear 6 = .ok (.invokevirtual 202, 3) := by decide +kernel
theorem dMo_linear_9 : decode bMo_linear 9 = .ok (.ireturn, 1) := by decide +kernel
theorem dMo_linearity_0 : decode bMo_linearity 0 = .ok (.iconst 1, 1) := by decide +kernel
theorem dMo_linearity_1 : decode bMo_linearity 1 = .ok (.istore_n 1, 1) := by decide +kernel
theorem dMo_linearity_2 : decode bMo_linearity 2 = .ok (.iconst 0, 1) := by decide +kernel
theorem dMo_linearity_3 : decode bMo_linearity 3 = .ok (.istore_n 2, 1) := by decide +kernel
theorem dMo_linearity_4 : decode bMo_linearity 4 = .ok (.iload_n 2, 1) := by decide +kernel
theorem dMo_linearity_5 : decode bMo_linearity 5 = .ok (.aload_n 0, 1) := by decide +kernel
theorem dMo_linearity_6 : decode bMo_linearity 6 = .ok (.getfield 104, 3) := by decide +kernel
theorem dMo_linearity_9 : decode bMo_linearity 9 = .ok (.if_icmp .ge 49, 3) := by decide +kernel
theorem dMo_linearity_12 : decode bMo_linearity 12 = .ok (.aload_n 0, 1) := by decide +kernel
theorem dMo_linearity_13 : decode bMo_linearity 13 = .ok (.iload_n 2, 1) := by decide +kernel
theorem dMo_linearity_14 : decode bMo_linearity 14 = .ok (.invokevirtual 195, 3) := by decide +kernel
theorem dMo_linearity_17 : decode bMo_linearity 17 = .ok (.aload_n 0, 1) := by decide +kernel
theorem dMo_linearity_18 : decode bMo_linearity 18 = .ok (.getfield 66, 3) := by decide +kernel
theorem dMo_linearity_21 : decode bMo_linearity 21 = .ok (.iload_n 2, 1) := by decide +kernel
theorem dMo_linearity_22 : decode bMo_linearity 22 = .ok (.iaload, 1) := by decide +kernel
theorem dMo_linearity_23 : decode bMo_linearity 23 = .ok (.ifCond .eq 7, 3) := by decide +kernel
theorem dMo_linearity_26 : decode bMo_linearity 26 = .ok (.iload_n 1, 1) := by decide +kernel
theorem dMo_linearity_27 : decode bMo_linearity 27 = .ok (.ifCond .ne 7, 3) := by decide +kernel
theorem dMo_linearity_30 : decode bMo_linearity 30 = .ok (.iconst 0, 1) := by decide +kernel
theorem dMo_linearity_31 : decode bMo_linearity 31 = .ok (.goto 20, 3) := by decide +kernel
theorem dMo_linearity_34 : decode bMo_linearity 34 = .ok (.aload_n 0, 1) := by decide +kernel
theorem dMo_linearity_35 : decode bMo_linearity 35 = .ok (.getfield 66, 3) := by decide +kernel
theorem dMo_linearity_38 : decode bMo_linearity 38 = .ok (.iload_n 2, 1) := by decide +kernel
theorem dMo_linearity_39 : decode bMo_linearity 39 = .ok (.iaload, 1) := by decide +kernel
theorem dMo_linearity_40 : decode bMo_linearity 40 = .ok (.bipush (-2), 2) := by decide +kernel
theorem dMo_linearity_42 : decode bMo_linearity 42 = .ok (.if_icmp .ne 8, 3) := by decide +kernel
theorem dMo_linearity_45 : decode bMo_linearity 45 = .ok (.bipush (-2), 2) := by decide +kernel
theorem dMo_linearity_47 : decode bMo_linearity 47 = .ok (.goto 4, 3) := by decide +kernel
theorem dMo_linearity_50 : decode bMo_linearity 50 = .ok (.iload_n 1, 1) := by decide +kernel
theorem dMo_linearity_51 : decode bMo_linearity 51 = .ok (.istore_n 1, 1) := by decide +kernel
theorem dMo_linearity_52 : decode bMo_linearity 52 = .ok (.iinc 2 1, 3) := by decide +kernel
theorem dMo_linearity_55 : decode bMo_linearity 55 = .ok (.goto (-51), 3) := by decide +kernel
theorem dMo_linearity_58 : decode bMo_linearity 58 = .ok (.iload_n 1, 1) := by decide +kernel
theorem dMo_linearity_59 : decode bMo_linearity 59 = .ok (.ireturn, 1) := by decide +kernel
theorem dMo_length_0 : decode bMo_length 0 = .ok (.aload_n 0, 1) := by decide +kernel
theorem dMo_length_1 : decode bMo_length 1 = .ok (.aload_n 0, 1) := by decide +kernel
theorem dMo_length_2 : decode bMo_length 2 = .ok (.invokevirtual 222, 3) := by decide +kernel
theorem dMo_length_5 : decode bMo_length 5 = .ok (.ifCond .eq 7, 3) := by decide +kernel
theorem dMo_length_8 : decode bMo_length 8 = .ok (.iconst 0, 1) := by decide +kernel
theorem dMo_length_9 : decode bMo_length 9 = .ok (.goto 4, 3) := by decide +kernel
theorem dMo_length_12 : decode bMo_length 12 = .ok (.iconst 1, 1) := by decide +kernel
theorem dMo_length_13 : decode bMo_length 13 = .ok (.putfield 93, 3) := by decide +kernel
theorem dMo_length_16 : decode bMo_length 16 = .ok (.aload_n 0, 1) := by decide +kernel
theorem dMo_length_17 : decode bMo_length 17 = .ok (.getfield 93, 3) := by decide +kernel
theorem dMo_length_20 : decode bMo_length 20 = .ok (.ifCond .le 7, 3) := by decide +kernel
theorem dMo_length_23 : decode bMo_length 23 = .ok (.iconst 0, 1) := by decide +kernel
theorem dMo_length_24 : decode bMo_length 24 = .ok (.goto 7, 3) := by decide +kernel
theorem dMo_length_27 : decode bMo_length 27 = .ok (.aload_n 0, 1) := by decide +kernel
theorem dMo_length_28 : decode bMo_length 28 = .ok (.getfield 209, 3) := by decide +kernel
theorem dMo_length_31 : decode bMo_length 31 = .ok (.ireturn, 1) := by decide +kernel
theorem dMo_lay_0 : decode bMo_lay 0 = .ok (.aload_n 0, 1) := by decide +kernel
theorem dMo_lay_1 : decode bMo_lay 1 = .ok (.invokevirtual 202, 3) := by decide +kernel
theorem dMo_lay_4 : decode bMo_lay 4 = .ok (.iconst 1, 1) := by decide +kernel
theorem dMo_lay_5 : decode bMo_lay 5 = .ok (.if_icmp .eq 5, 3) := by decide +kernel
theorem dMo_lay_8 : decode bMo_lay 8 = .ok (.iconst 0, 1) := by decide +kernel
theorem dMo_lay_9 : decode bMo_lay 9 = .ok (.ireturn, 1) := by decide +kernel
theorem dMo_lay_10 : decode bMo_lay 10 = .ok (.aload_n 0, 1) := by decide +kernel
theorem dMo_lay_11 : decode bMo_lay 11 = .ok (.getfield 100, 3) := by decide +kernel
theorem dMo_lay_14 : decode bMo_lay 14 = .ok (.ifCond .ne 71, 3) := by decide +kernel
theorem dMo_lay_17 : decode bMo_lay 17 = .ok (.aload_n 0, 1) := by decide +kernel
theorem dMo_lay_18 : decode bMo_lay 18 = .ok (.iconst 0, 1) := by decide +kernel
theorem dMo_lay_19 : decode bMo_lay 19 = .ok (.putfield 209, 3) := by decide +kernel
theorem dMo_lay_22 : decode bMo_lay 22 = .ok (.iconst 0, 1) := by decide +kernel
theorem dMo_lay_23 : decode bMo_lay 23 = .ok (.istore_n 1, 1) := by decide +kernel
theorem dMo_lay_24 : decode bMo_lay 24 = .ok (.iload_n 1, 1) := by decide +kernel
theorem dMo_lay_25 : decode bMo_lay 25 = .ok (.aload_n 0, 1) := by decide +kernel
theorem dMo_lay_26 : decode bMo_lay 26 = .ok (.getfield 104, 3) := by decide +kernel
theorem dMo_lay_29 : decode bMo_lay 29 = .ok (.if_icmp .ge 25, 3) := by decide +kernel
theorem dMo_lay_32 : decode bMo_lay 32 = .ok (.aload_n 0, 1) := by decide +kernel
theorem dMo_lay_33 : decode bMo_lay 33 = .ok (.iload_n 1, 1) := by decide +kernel
theorem dMo_lay_34 : decode bMo_lay 34 = .ok (.invokevirtual 212, 3) := by decide +kernel
theorem dMo_lay_37 : decode bMo_lay 37 = .ok (.aload_n 0, 1) := by decide +kernel
theorem dMo_lay_38 : decode bMo_lay 38 = .ok (.getfield 87, 3) := by decide +kernel
theorem dMo_lay_41 : decode bMo_lay 41 = .ok (.iload_n 1, 1) := by decide +kernel
theorem dMo_lay_42 : decode bMo_lay 42 = .ok (.sipush 2001, 3) := by decide +kernel
theorem dMo_lay_45 : decode bMo_lay 45 = .ok (.iload_n 1, 1) := by decide +kernel
theorem dMo_lay_46 : decode bMo_lay 46 = .ok (.imul, 1) := by decide +kernel
theorem dMo_lay_47 : decode bMo_lay 47 = .ok (.iastore, 1) := by decide +kernel
theorem dMo_lay_48 : decode bMo_lay 48 = .ok (.iinc 1 1, 3) := by decide +kernel
theorem dMo_lay_51 : decode bMo_lay 51 = .ok (.goto (-27), 3) := by decide +kernel
theorem dMo_lay_54 : decode bMo_lay 54 = .ok (.aload_n 0, 1) := by decide +kernel
theorem dMo_lay_55 : decode bMo_lay 55 = .ok (.invokevirtual 215, 3) := by decide +kernel
theorem dMo_lay_58 : decode bMo_lay 58 = .ok (.ifCond .ne 22, 3) := by decide +kernel
theorem dMo_lay_61 : decode bMo_lay 61 = .ok (.iconst 0, 1) := by decide +kernel
theorem dMo_lay_62 : decode bMo_lay 62 = .ok (.istore_n 1, 1) := by decide +kernel
theorem dMo_lay_63 : decode bMo_lay 63 = .ok (.aload_n 0, 1) := by decide +kernel
theorem dMo_lay_64 : decode bMo_lay 64 = .ok (.iload_n 1, 1) := by decide +kernel
theorem dMo_lay_65 : decode bMo_lay 65 = .ok (.invokevirtual 219, 3) := by decide +kernel
theorem dMo_lay_68 : decode bMo_lay 68 = .ok (.ifCond .ne 9, 3) := by decide +kernel
theorem dMo_lay_71 : decode bMo_lay 71 = .ok (.iinc 1 1, 3) := by decide +kernel
theorem dMo_lay_74 : decode bMo_lay 74 = .ok (.goto (-11), 3) := by decide +kernel
theorem dMo_lay_77 : decode bMo_lay 77 = .ok (.goto (-23), 3) := by decide +kernel
theorem dMo_lay_80 : decode bMo_lay 80 = .ok (.aload_n 0, 1) := by decide +kernel
theorem dMo_lay_81 : decode bMo_lay 81 = .ok (.iconst 1, 1) := by decide +kernel
theorem dMo_lay_82 : decode bMo_lay 82 = .ok (.putfield 100, 3) := by decide +kernel
theorem dMo_lay_85 : decode bMo_lay 85 = .ok (.iconst 1, 1) := by decide +kernel
theorem dMo_lay_86 : decode bMo_lay 86 = .ok (.ireturn, 1) := by decide +kernel
end
section
theorem dMo_enliven_0 : decode bMo_enliven 0 = .ok (.sipush 2001, 3) := by decide +kernel
theorem dMo_enliven_3 : decode bMo_enliven 3 = .ok (.iload_n 1, 1) := by decide +kernel
theorem dMo_enliven_4 : decode bMo_enliven 4 = .ok (.imul, 1) := by decide +kernel
theorem dMo_enliven_5 : decode bMo_enliven 5 = .ok (.istore_n 2, 1) := by decide +kernel
theorem dMo_enliven_6 : decode bMo_enliven 6 = .ok (.aload_n 0, 1) := by decide +kernel
theorem dMo_enliven_7 : decode bMo_enliven 7 = .ok (.getfield 63, 3) := by decide +kernel
theorem dMo_enliven_10 : decode bMo_enliven 10 = .ok (.iload_n 1, 1) := by decide +kernel
theorem dMo_enliven_11 : decode bMo_enliven 11 = .ok (.iaload, 1) := by decide +kernel
theorem dMo_enliven_12 : decode bMo_enliven 12 = .ok (.iconst 1, 1) := by decide +kernel
theorem dMo_enliven_13 : decode bMo_enliven 13 = .ok (.isub, 1) := by decide +kernel
theorem dMo_enliven_14 : decode bMo_enliven 14 = .ok (.istore_n 3, 1) := by decide +kernel
theorem dMo_enliven_15 : decode bMo_enliven 15 = .ok (.iload_n 3, 1) := by decide +kernel
theorem dMo_enliven_16 : decode bMo_enliven 16 = .ok (.ifCond .lt 136, 3) := by decide +kernel
theorem dMo_enliven_19 : decode bMo_enliven 19 = .ok (.aload_n 0, 1) := by decide +kernel
theorem dMo_enliven_20 : decode bMo_enliven 20 = .ok (.getfield 53, 3) := by decide +kernel
theorem dMo_enliven_23 : decode bMo_enliven 23 = .ok (.iload_n 2, 1) := by decide +kernel
theorem dMo_enliven_24 : decode bMo_enliven 24 = .ok (.iload_n 3, 1) := by decide +kernel
theorem dMo_enliven_25 : decode bMo_enliven 25 = .ok (.iadd, 1) := by decide +kernel
theorem dMo_enliven_26 : decode bMo_enliven 26 = .ok (.aload_n 0, 1) := by decide +kernel
theorem dMo_enliven_27 : decode bMo_enliven 27 = .ok (.iload_n 1, 1) := by decide +kernel
theorem dMo_enliven_28 : decode bMo_enliven 28 = .ok (.iload_n 2, 1) := by decide +kernel
theorem dMo_enliven_29 : decode bMo_enliven 29 = .ok (.iload_n 3, 1) := by decide +kernel
theorem dMo_enliven_30 : decode bMo_enliven 30 = .ok (.iadd, 1) := by decide +kernel
theorem dMo_enliven_31 : decode bMo_enliven 31 = .ok (.aload_n 0, 1) := by decide +kernel
theorem dMo_enliven_32 : decode bMo_enliven 32 = .ok (.getfield 114, 3) := by decide +kernel
theorem dMo_enliven_35 : decode bMo_enliven 35 = .ok (.invokevirtual 181, 3) := by decide +kernel
theorem dMo_enliven_38 : decode bMo_enliven 38 = .ok (.bastore, 1) := by decide +kernel
theorem dMo_enliven_39 : decode bMo_enliven 39 = .ok (.iconst 0, 1) := by decide +kernel
theorem dMo_enliven_40 : decode bMo_enliven 40 = .ok (.istore 4, 2) := by decide +kernel
theorem dMo_enliven_42 : decode bMo_enliven 42 = .ok (.iload 4, 2) := by decide +kernel
theorem dMo_enliven_44 : decode bMo_enliven 44 = .ok (.aload_n 0, 1) := by decide +kernel
theorem dMo_enliven_45 : decode bMo_enliven 45 = .ok (.getfield 13, 3) := by decide +kernel
theorem dMo_enliven_48 : decode bMo_enliven 48 = .ok (.iload_n 1, 1) := by decide +kernel
theorem dMo_enliven_49 : decode bMo_enliven 49 = .ok (.iaload, 1) := by decide +kernel
theorem dMo_enliven_50 : decode bMo_enliven 50 = .ok (.if_icmp .ge 96, 3) := by decide +kernel
theorem dMo_enliven_53 : decode bMo_enliven 53 = .ok (.aload_n 0, 1) := by decide +kernel
theorem dMo_enliven_54 : decode bMo_enliven 54 = .ok (.getfield 53, 3) := by decide +kernel
theorem dMo_enliven_57 : decode bMo_enliven 57 = .ok (.iload_n 2, 1) := by decide +kernel
theorem dMo_enliven_58 : decode bMo_enliven 58 = .ok (.iload_n 3, 1) := by decide +kernel
theorem dMo_enliven_59 : decode bMo_enliven 59 = .ok (.iadd, 1) := by decide +kernel
theorem dMo_enliven_60 : decode bMo_enliven 60 = .ok (.baload, 1) := by decide +kernel
theorem dMo_enliven_61 : decode bMo_enliven 61 = .ok (.ifCond .ne 85, 3) := by decide +kernel
theorem dMo_enliven_64 : decode bMo_enliven 64 = .ok (.aload_n 0, 1) := by decide +kernel
theorem dMo_enliven_65 : decode bMo_enliven 65 = .ok (.iload_n 1, 1) := by decide +kernel
theorem dMo_enliven_66 : decode bMo_enliven 66 = .ok (.iload 4, 2) := by decide +kernel
theorem dMo_enliven_68 : decode bMo_enliven 68 = .ok (.iload_n 2, 1) := by decide +kernel
theorem dMo_enliven_69 : decode bMo_enliven 69 = .ok (.iload_n 3, 1) := by decide +kernel
theorem dMo_enliven_70 : decode bMo_enliven 70 = .ok (.iadd, 1) := by decide +kernel
theorem dMo_enliven_71 : decode bMo_enliven 71 = .ok (.aload_n 0, 1) := by decide +kernel
theorem dMo_enliven_72 : decode bMo_enliven 72 = .ok (.getfield 114, 3) := by decide +kernel
theorem dMo_enliven_75 : decode bMo_enliven 75 = .ok (.iconst 0, 1) := by decide +kernel
theorem dMo_enliven_76 : decode bMo_enliven 76 = .ok (.invokevirtual 172, 3) := by decide +kernel
theorem dMo_enliven_79 : decode bMo_enliven 79 = .ok (.ifCond .eq 61, 3) := by decide +kernel
theorem dMo_enliven_82 : decode bMo_enliven 82 = .ok (.aload_n 0, 1) := by decide +kernel
theorem dMo_enliven_83 : decode bMo_enliven 83 = .ok (.getfield 46, 3) := by decide +kernel
theorem dMo_enliven_86 : decode bMo_enliven 86 = .ok (.iload_n 2, 1) := by decide +kernel
theorem dMo_enliven_87 : decode bMo_enliven 87 = .ok (.iload_n 3, 1) := by decide +kernel
theorem dMo_enliven_88 : decode bMo_enliven 88 = .ok (.iadd, 1) := by decide +kernel
theorem dMo_enliven_89 : decode bMo_enliven 89 = .ok (.iaload, 1) := by decide +kernel
theorem dMo_enliven_90 : decode bMo_enliven 90 = .ok (.ldc 176, 2) := by decide +kernel
theorem dMo_enliven_92 : decode bMo_enliven 92 = .ok (.iand, 1) := by decide +kernel
theorem dMo_enliven_93 : decode bMo_enliven 93 = .ok (.iconst 1, 1) := by decide +kernel
theorem dMo_enliven_94 : decode bMo_enliven 94 = .ok (.iload 4, 2) := by decide +kernel
theorem dMo_enliven_96 : decode bMo_enliven 96 = .ok (.ishl, 1) := by decide +kernel
theorem dMo_enliven_97 : decode bMo_enliven 97 = .ok (.ior, 1) := by decide +kernel
theorem dMo_enliven_98 : decode bMo_enliven 98 = .ok (.aload_n 0, 1) := by decide +kernel
theorem dMo_enliven_99 : decode bMo_enliven 99 = .ok (.getfield 129, 3) := by decide +kernel
theorem dMo_enliven_102 : decode bMo_enliven 102 = .ok (.bipush 16, 2) := by decide +kernel
theorem dMo_enliven_104 : decode bMo_enliven 104 = .ok (.ishl, 1) := by decide +kernel
theorem dMo_enliven_105 : decode bMo_enliven 105 = .ok (.ior, 1) := by decide +kernel
theorem dMo_enliven_106 : decode bMo_enliven 106 = .ok (.istore 5, 2) := by decide +kernel
theorem dMo_enliven_108 : decode bMo_enliven 108 = .ok (.aload_n 0, 1) := by decide +kernel
theorem dMo_enliven_109 : decode bMo_enliven 109 = .ok (.getfield 53, 3) := by decide +kernel
theorem dMo_enliven_112 : decode bMo_enliven 112 = .ok (.iload_n 2, 1) := by decide +kernel
theorem dMo_enliven_113 : decode bMo_enliven 113 = .ok (.iload_n 3, 1) := by decide +kernel
theorem dMo_enliven_114 : decode bMo_enliven 114 = .ok (.iadd, 1) := by decide +kernel
theorem dMo_enliven_115 : decode bMo_enliven 115 = .ok (.aload_n 0, 1) := by decide +kernel
theorem dMo_enliven_116 : decode bMo_enliven 116 = .ok (.getfield 53, 3) := by decide +kernel
theorem dMo_enliven_119 : decode bMo_enliven 119 = .ok (.aload_n 0, 1) := by decide +kernel
theorem dMo_enliven_120 : decode bMo_enliven 120 = .ok (.iload_n 2, 1) := by decide +kernel
theorem dMo_enliven_121 : decode bMo_enliven 121 = .ok (.iload_n 3, 1) := by decide +kernel
theorem dMo_enliven_122 : decode bMo_enliven 122 = .ok (.iadd, 1) := by decide +kernel
theorem dMo_enliven_123 : decode bMo_enliven 123 = .ok (.iconst 1, 1) := by decide +kernel
theorem dMo_enliven_124 : decode bMo_enliven 124 = .ok (.iadd, 1) := by decide +kernel
theorem dMo_enliven_125 : decode bMo_enliven 125 = .ok (.iload_n 2, 1) := by decide +kernel
theorem dMo_enliven_126 : decode bMo_enliven 126 = .ok (.aload_n 0, 1) := by decide +kernel
theorem dMo_enliven_127 : decode bMo_enliven 127 = .ok (.getfield 63, 3) := by decide +kernel
theorem dMo_enliven_130 : decode bMo_enliven 130 = .ok (.iload_n 1, 1) := by decide +kernel
theorem dMo_enliven_131 : decode bMo_enliven 131 = .ok (.iaload, 1) := by decide +kernel
theorem dMo_enliven_132 : decode bMo_enliven 132 = .ok (.iadd, 1) := by decide +kernel
theorem dMo_enliven_133 : decode bMo_enliven 133 = .ok (.iload 5, 2) := by decide +kernel
theorem dMo_enliven_135 : decode bMo_enliven 135 = .ok (.invokevirtual 177, 3) := by decide +kernel
theorem dMo_enliven_138 : decode bMo_enliven 138 = .ok (.baload, 1) := by decide +kernel
theorem dMo_enliven_139 : decode bMo_enliven 139 = .ok (.bastore, 1) := by decide +kernel
theorem dMo_enliven_140 : decode bMo_enliven 140 = .ok (.iinc 4 1, 3) := by decide +kernel
theorem dMo_enliven_143 : decode bMo_enliven 143 = .ok (.goto (-101), 3) := by decide +kernel
theorem dMo_enliven_146 : decode bMo_enliven 146 = .ok (.iinc 3 (-1), 3) := by decide +kernel
theorem dMo_enliven_149 : decode bMo_enliven 149 = .ok (.goto (-134), 3) := by decide +kernel
theorem dMo_enliven_152 : decode bMo_enliven 152 = .ok (.return_, 1) := by decide +kernel
theorem dMo_isWhole_0 : decode bMo_isWhole 0 = .ok (.iconst 0, 1) := by decide +kernel
theorem dMo_isWhole_1 : decode bMo_isWhole 1 = .ok (.istore_n 1, 1) := by decide +kernel
theorem dMo_isWhole_2 : decode bMo_isWhole 2 = .ok (.iload_n 1, 1) := by decide +kernel
theorem dMo_isWhole_3 : decode bMo_isWhole 3 = .ok (.aload_n 0, 1) := by decide +kernel
theorem dMo_isWhole_4 : decode bMo_isWhole 4 = .ok (.getfield 104, 3) := by decide +kernel
theorem dMo_isWhole_7 : decode bMo_isWhole 7 = .ok (.if_icmp .ge 29, 3) := by decide +kernel
theorem dMo_isWhole_10 : decode bMo_isWhole 10 = .ok (.aload_n 0, 1) := by decide +kernel
theorem dMo_isWhole_11 : decode bMo_isWhole 11 = .ok (.iload_n 1, 1) := by decide +kernel
theorem dMo_isWhole_12 : decode bMo_isWhole 12 = .ok (.aload_n 0, 1) := by decide +kernel
theorem dMo_isWhole_13 : decode bMo_isWhole 13 = .ok (.getfield 87, 3) := by decide +kernel
theorem dMo_isWhole_16 : decode bMo_isWhole 16 = .ok (.iload_n 1, 1) := by decide +kernel
theorem dMo_isWhole_17 : decode bMo_isWhole 17 = .ok (.iaload, 1) := by decide +kernel
theorem dMo_isWhole_18 : decode bMo_isWhole 18 = .ok (.aload_n 0, 1) := by decide +kernel
theorem dMo_isWhole_19 : decode bMo_isWhole 19 = .ok (.getfield 114, 3) := by decide +kernel
theorem dMo_isWhole_22 : decode bMo_isWhole 22 = .ok (.invokevirtual 181, 3) := by decide +kernel
theorem dMo_isWhole_25 : decode bMo_isWhole 25 = .ok (.ifCond .ne 5, 3) := by decide +kernel
theorem dMo_isWhole_28 : decode bMo_isWhole 28 = .ok (.iconst 0, 1) := by decide +kernel
theorem dMo_isWhole_29 : decode bMo_isWhole 29 = .ok (.ireturn, 1) := by decide +kernel
theorem dMo_isWhole_30 : decode bMo_isWhole 30 = .ok (.iinc 1 1, 3) := by decide +kernel
theorem dMo_isWhole_33 : decode bMo_isWhole 33 = .ok (.goto (-31), 3) := by decide +kernel
theorem dMo_isWhole_36 : decode bMo_isWhole 36 = .ok (.iconst 1, 1) := by decide +kernel
theorem dMo_isWhole_37 : decode bMo_isWhole 37 = .ok (.ireturn, 1) := by decide +kernel
theorem dMo_goesOn_0 : decode bMo_goesOn 0 = .ok (.aload_n 0, 1) := by decide +kernel
theorem dMo_goesOn_1 : decode bMo_goesOn 1 = .ok (.getfield 22, 3) := by decide +kernel
theorem dMo_goesOn_4 : decode bMo_goesOn 4 = .ok (.iload_n 1, 1) := by decide +kernel
theorem dMo_goesOn_5 : decode bMo_goesOn 5 = .ok (.iaload, 1) := by decide +kernel
theorem dMo_goesOn_6 : decode bMo_goesOn 6 = .ok (.istore_n 2, 1) := by decide +kernel
theorem dMo_goesOn_7 : decode bMo_goesOn 7 = .ok (.iconst 0, 1) := by decide +kernel
theorem dMo_goesOn_8 : decode bMo_goesOn 8 = .ok (.istore_n 3, 1) := by decide +kernel
theorem dMo_goesOn_9 : decode bMo_goesOn 9 = .ok (.aload_n 0, 1) := by decide +kernel
theorem dMo_goesOn_10 : decode bMo_goesOn 10 = .ok (.getfield 16, 3) := by decide +kernel
theorem dMo_goesOn_13 : decode bMo_goesOn 13 = .ok (.bipush 16, 2) := by decide +kernel
theorem dMo_goesOn_15 : decode bMo_goesOn 15 = .ok (.iload_n 2, 1) := by decide +kernel
theorem dMo_goesOn_16 : decode bMo_goesOn 16 = .ok (.imul, 1) := by decide +kernel
theorem dMo_goesOn_17 : decode bMo_goesOn 17 = .ok (.iload_n 3, 1) := by decide +kernel
theorem dMo_goesOn_18 : decode bMo_goesOn 18 = .ok (.iadd, 1) := by decide +kernel
theorem dMo_goesOn_19 : decode bMo_goesOn 19 = .ok (.iaload, 1) := by decide +kernel
theorem dMo_goesOn_20 : decode bMo_goesOn 20 = .ok (.iload_n 1, 1) := by decide +kernel
theorem dMo_goesOn_21 : decode bMo_goesOn 21 = .ok (.if_icmp .eq 9, 3) := by decide +kernel
theorem dMo_goesOn_24 : decode bMo_goesOn 24 = .ok (.iinc 3 1, 3) := by decide +kernel
theorem dMo_goesOn_27 : decode bMo_goesOn 27 = .ok (.goto (-18), 3) := by decide +kernel
theorem dMo_goesOn_30 : decode bMo_goesOn 30 = .ok (.iconst 0, 1) := by decide +kernel
theorem dMo_goesOn_31 : decode bMo_goesOn 31 = .ok (.istore 4, 2) := by decide +kernel
theorem dMo_goesOn_33 : decode bMo_goesOn 33 = .ok (.iload 4, 2) := by decide +kernel
theorem dMo_goesOn_35 : decode bMo_goesOn 35 = .ok (.aload_n 0, 1) := by decide +kernel
theorem dMo_goesOn_36 : decode bMo_goesOn 36 = .ok (.getfield 111, 3) := by decide +kernel
theorem dMo_goesOn_39 : decode bMo_goesOn 39 = .ok (.if_icmp .ge 41, 3) := by decide +kernel
theorem dMo_goesOn_42 : decode bMo_goesOn 42 = .ok (.iload 4, 2) := by decide +kernel
theorem dMo_goesOn_44 : decode bMo_goesOn 44 = .ok (.iload_n 1, 1) := by decide +kernel
theorem dMo_goesOn_45 : decode bMo_goesOn 45 = .ok (.if_icmp .eq 29, 3) := by decide +kernel
theorem dMo_goesOn_48 : decode bMo_goesOn 48 = .ok (.aload_n 0, 1) := by decide +kernel
theorem dMo_goesOn_49 : decode bMo_goesOn 49 = .ok (.iload 4, 2) := by decide +kernel
theorem dMo_goesOn_51 : decode bMo_goesOn 51 = .ok (.iload_n 1, 1) := by decide +kernel
theorem dMo_goesOn_52 : decode bMo_goesOn 52 = .ok (.aload_n 0, 1) := by decide +kernel
theorem dMo_goesOn_53 : decode bMo_goesOn 53 = .ok (.getfield 114, 3) := by decide +kernel
theorem dMo_goesOn_56 : decode bMo_goesOn 56 = .ok (.iconst 0, 1) := by decide +kernel
theorem dMo_goesOn_57 : decode bMo_goesOn 57 = .ok (.invokevirtual 165, 3) := by decide +kernel
theorem dMo_goesOn_60 : decode bMo_goesOn 60 = .ok (.ifCond .eq 14, 3) := by decide +kernel
theorem dMo_goesOn_63 : decode bMo_goesOn 63 = .ok (.aload_n 0, 1) := by decide +kernel
theorem dMo_goesOn_64 : decode bMo_goesOn 64 = .ok (.iload 4, 2) := by decide +kernel
theorem dMo_goesOn_66 : decode bMo_goesOn 66 = .ok (.invokevirtual 206, 3) := by decide +kernel
theorem dMo_goesOn_69 : decode bMo_goesOn 69 = .ok (.ifCond .ne 5, 3) := by decide +kernel
theorem dMo_goesOn_72 : decode bMo_goesOn 72 = .ok (.iconst 0, 1) := by decide +kernel
theorem dMo_goesOn_73 : decode bMo_goesOn 73 = .ok (.ireturn, 1) := by decide +kernel
theorem dMo_goesOn_74 : decode bMo_goesOn 74 = .ok (.iinc 4 1, 3) := by decide +kernel
theorem dMo_goesOn_77 : decode bMo_goesOn 77 = .ok (.goto (-44), 3) := by decide +kernel
theorem dMo_goesOn_80 : decode bMo_goesOn 80 = .ok (.aload_n 0, 1) := by decide +kernel
theorem dMo_goesOn_81 : decode bMo_goesOn 81 = .ok (.iload_n 2, 1) := by decide +kernel
theorem dMo_goesOn_82 : decode bMo_goesOn 82 = .ok (.iload_n 3, 1) := by decide +kernel
theorem dMo_goesOn_83 : decode bMo_goesOn 83 = .ok (.aload_n 0, 1) := by decide +kernel
theorem dMo_goesOn_84 : decode bMo_goesOn 84 = .ok (.getfield 87, 3) := by decide +kernel
theorem dMo_goesOn_87 : decode bMo_goesOn 87 = .ok (.iload_n 2, 1) := by decide +kernel
theorem dMo_goesOn_88 : decode bMo_goesOn 88 = .ok (.iaload, 1) := by decide +kernel
theorem dMo_goesOn_89 : decode bMo_goesOn 89 = .ok (.aload_n 0, 1) := by decide +kernel
theorem dMo_goesOn_90 : decode bMo_goesOn 90 = .ok (.getfield 114, 3) := by decide +kernel
theorem dMo_goesOn_93 : decode bMo_goesOn 93 = .ok (.iconst 0, 1) := by decide +kernel
theorem dMo_goesOn_94 : decode bMo_goesOn 94 = .ok (.invokevirtual 172, 3) := by decide +kernel
theorem dMo_goesOn_97 : decode bMo_goesOn 97 = .ok (.ifCond .ne 5, 3) := by decide +kernel
theorem dMo_goesOn_100 : decode bMo_goesOn 100 = .ok (.iconst 0, 1) := by decide +kernel
theorem dMo_goesOn_101 : decode bMo_goesOn 101 = .ok (.ireturn, 1) := by decide +kernel
theorem dMo_goesOn_102 : decode bMo_goesOn 102 = .ok (.aload_n 0, 1) := by decide +kernel
theorem dMo_goesOn_103 : decode bMo_goesOn 103 = .ok (.getfield 46, 3) := by decide +kernel
theorem dMo_goesOn_106 : decode bMo_goesOn 106 = .ok (.aload_n 0, 1) := by decide +kernel
theorem dMo_goesOn_107 : decode bMo_goesOn 107 = .ok (.getfield 87, 3) := by decide +kernel
theorem dMo_goesOn_110 : decode bMo_goesOn 110 = .ok (.iload_n 2, 1) := by decide +kernel
theorem dMo_goesOn_111 : decode bMo_goesOn 111 = .ok (.iaload, 1) := by decide +kernel
theorem dMo_goesOn_112 : decode bMo_goesOn 112 = .ok (.iaload, 1) := by decide +kernel
theorem dMo_goesOn_113 : decode bMo_goesOn 113 = .ok (.ldc 176, 2) := by decide +kernel
theorem dMo_goesOn_115 : decode bMo_goesOn 115 = .ok (.iand, 1) := by decide +kernel
theorem dMo_goesOn_116 : decode bMo_goesOn 116 = .ok (.iconst 1, 1) := by decide +kernel
theorem dMo_goesOn_117 : decode bMo_goesOn 117 = .ok (.iload_n 3, 1) := by decide +kernel
theorem dMo_goesOn_118 : decode bMo_goesOn 118 = .ok (.ishl, 1) := by decide +kernel
theorem dMo_goesOn_119 : decode bMo_goesOn 119 = .ok (.ior, 1) := by decide +kernel
theorem dMo_goesOn_120 : decode bMo_goesOn 120 = .ok (.aload_n 0, 1) := by decide +kernel
theorem dMo_goesOn_121 : decode bMo_goesOn 121 = .ok (.getfield 129, 3) := by decide +kernel
theorem dMo_goesOn_124 : decode bMo_goesOn 124 = .ok (.bipush 16, 2) := by decide +kernel
theorem dMo_goesOn_126 : decode bMo_goesOn 126 = .ok (.ishl, 1) := by decide +kernel
theorem dMo_goesOn_127 : decode bMo_goesOn 127 = .ok (.ior, 1) := by decide +kernel
theorem dMo_goesOn_128 : decode bMo_goesOn 128 = .ok (.istore 4, 2) := by decide +kernel
theorem dMo_goesOn_130 : decode bMo_goesOn 130 = .ok (.aload_n 0, 1) := by decide +kernel
theorem dMo_goesOn_131 : decode bMo_goesOn 131 = .ok (.aload_n 0, 1) := by decide +kernel
theorem dMo_goesOn_132 : decode bMo_goesOn 132 = .ok (.getfield 87, 3) := by decide +kernel
theorem dMo_goesOn_135 : decode bMo_goesOn 135 = .ok (.iload_n 2, 1) := by decide +kernel
theorem dMo_goesOn_136 : decode bMo_goesOn 136 = .ok (.iaload, 1) := by decide +kernel
theorem dMo_goesOn_137 : decode bMo_goesOn 137 = .ok (.iconst 1, 1) := by decide +kernel
theorem dMo_goesOn_138 : decode bMo_goesOn 138 = .ok (.iadd, 1) := by decide +kernel
theorem dMo_goesOn_139 : decode bMo_goesOn 139 = .ok (.sipush 2001, 3) := by decide +kernel
theorem dMo_goesOn_142 : decode bMo_goesOn 142 = .ok (.iload_n 2, 1) := by decide +kernel
theorem dMo_goesOn_143 : decode bMo_goesOn 143 = .ok (.imul, 1) := by decide +kernel
theorem dMo_goesOn_144 : decode bMo_goesOn 144 = .ok (.aload_n 0, 1) := by decide +kernel
theorem dMo_goesOn_145 : decode bMo_goesOn 145 = .ok (.getfield 63, 3) := by decide +kernel
theorem dMo_goesOn_148 : decode bMo_goesOn 148 = .ok (.iload_n 2, 1) := by decide +kernel
theorem dMo_goesOn_149 : decode bMo_goesOn 149 = .ok (.iaload, 1) := by decide +kernel
theorem dMo_goesOn_150 : decode bMo_goesOn 150 = .ok (.iadd, 1) := by decide +kernel
theorem dMo_goesOn_151 : decode bMo_goesOn 151 = .ok (.iload 4, 2) := by decide +kernel
theorem dMo_goesOn_153 : decode bMo_goesOn 153 = .ok (.invokevirtual 177, 3) := by decide +kernel
theorem dMo_goesOn_156 : decode bMo_goesOn 156 = .ok (.istore 5, 2) := by decide +kernel
theorem dMo_goesOn_158 : decode bMo_goesOn 158 = .ok (.aload_n 0, 1) := by decide +kernel
theorem dMo_goesOn_159 : decode bMo_goesOn 159 = .ok (.getfield 53, 3) := by decide +kernel
theorem dMo_goesOn_162 : decode bMo_goesOn 162 = .ok (.iload 5, 2) := by decide +kernel
theorem dMo_goesOn_164 : decode bMo_goesOn 164 = .ok (.baload, 1) := by decide +kernel
theorem dMo_goesOn_165 : decode bMo_goesOn 165 = .ok (.ifCond .ne 5, 3) := by decide +kernel
theorem dMo_goesOn_168 : decode bMo_goesOn 168 = .ok (.iconst 0, 1) := by decide +kernel
theorem dMo_goesOn_169 : decode bMo_goesOn 169 = .ok (.ireturn, 1) := by decide +kernel
theorem dMo_goesOn_170 : decode bMo_goesOn 170 = .ok (.aload_n 0, 1) := by decide +kernel
theorem dMo_goesOn_171 : decode bMo_goesOn 171 = .ok (.getfield 81, 3) := by decide +kernel
theorem dMo_goesOn_174 : decode bMo_goesOn 174 = .ok (.aload_n 0, 1) := by decide +kernel
theorem dMo_goesOn_175 : decode bMo_goesOn 175 = .ok (.getfield 209, 3) := by decide +kernel
theorem dMo_goesOn_178 : decode bMo_goesOn 178 = .ok (.iload_n 1, 1) := by decide +kernel
theorem dMo_goesOn_179 : decode bMo_goesOn 179 = .ok (.iastore, 1) := by decide +kernel
theorem dMo_goesOn_180 : decode bMo_goesOn 180 = .ok (.aload_n 0, 1) := by decide +kernel
theorem dMo_goesOn_181 : decode bMo_goesOn 181 = .ok (.getfield 84, 3) := by decide +kernel
theorem dMo_goesOn_184 : decode bMo_goesOn 184 = .ok (.aload_n 0, 1) := by decide +kernel
theorem dMo_goesOn_185 : decode bMo_goesOn 185 = .ok (.getfield 209, 3) := by decide +kernel
theorem dMo_goesOn_188 : decode bMo_goesOn 188 = .ok (.aload_n 0, 1) := by decide +kernel
theorem dMo_goesOn_189 : decode bMo_goesOn 189 = .ok (.getfield 126, 3) := by decide +kernel
theorem dMo_goesOn_192 : decode bMo_goesOn 192 = .ok (.iastore, 1) := by decide +kernel
theorem dMo_goesOn_193 : decode bMo_goesOn 193 = .ok (.aload_n 0, 1) := by decide +kernel
theorem dMo_goesOn_194 : decode bMo_goesOn 194 = .ok (.dup, 1) := by decide +kernel
theorem dMo_goesOn_195 : decode bMo_goesOn 195 = .ok (.getfield 209, 3) := by decide +kernel
theorem dMo_goesOn_198 : decode bMo_goesOn 198 = .ok (.iconst 1, 1) := by decide +kernel
theorem dMo_goesOn_199 : decode bMo_goesOn 199 = .ok (.iadd, 1) := by decide +kernel
theorem dMo_goesOn_200 : decode bMo_goesOn 200 = .ok (.putfield 209, 3) := by decide +kernel
theorem dMo_goesOn_203 : decode bMo_goesOn 203 = .ok (.aload_n 0, 1) := by decide +kernel
theorem dMo_goesOn_204 : decode bMo_goesOn 204 = .ok (.getfield 87, 3) := by decide +kernel
theorem dMo_goesOn_207 : decode bMo_goesOn 207 = .ok (.iload_n 2, 1) := by decide +kernel
theorem dMo_goesOn_208 : decode bMo_goesOn 208 = .ok (.iload 5, 2) := by decide +kernel
theorem dMo_goesOn_210 : decode bMo_goesOn 210 = .ok (.iastore, 1) := by decide +kernel
theorem dMo_goesOn_211 : decode bMo_goesOn 211 = .ok (.iconst 1, 1) := by decide +kernel
theorem dMo_goesOn_212 : decode bMo_goesOn 212 = .ok (.ireturn, 1) := by decide +kernel
theorem dMo_isDone_0 : decode bMo_isDone 0 = .ok (.aload_n 0, 1) := by decide +kernel
theorem dMo_isDone_1 : decode bMo_isDone 1 = .ok (.getfield 22, 3) := by decide +kernel
theorem dMo_isDone_4 : decode bMo_isDone 4 = .ok (.iload_n 1, 1) := by decide +kernel
theorem dMo_isDone_5 : decode bMo_isDone 5 = .ok (.iaload, 1) := by decide +kernel
theorem dMo_isDone_6 : decode bMo_isDone 6 = .ok (.istore_n 2, 1) := by decide +kernel
theorem dMo_isDone_7 : decode bMo_isDone 7 = .ok (.iconst 0, 1) := by decide +kernel
theorem dMo_isDone_8 : decode bMo_isDone 8 = .ok (.istore_n 3, 1) := by decide +kernel
theorem dMo_isDone_9 : decode bMo_isDone 9 = .ok (.aload_n 0, 1) := by decide +kernel
theorem dMo_isDone_10 : decode bMo_isDone 10 = .ok (.getfield 16, 3) := by decide +kernel
theorem dMo_isDone_13 : decode bMo_isDone 13 = .ok (.bipush 16, 2) := by decide +kernel
theorem dMo_isDone_15 : decode bMo_isDone 15 = .ok (.iload_n 2, 1) := by decide +kernel
theorem dMo_isDone_16 : decode bMo_isDone 16 = .ok (.imul, 1) := by decide +kernel
theorem dMo_isDone_17 : decode bMo_isDone 17 = .ok (.iload_n 3, 1) := by decide +kernel
theorem dMo_isDone_18 : decode bMo_isDone 18 = .ok (.iadd, 1) := by decide +kernel
theorem dMo_isDone_19 : decode bMo_isDone 19 = .ok (.iaload, 1) := by decide +kernel
theorem dMo_isDone_20 : decode bMo_isDone 20 = .ok (.iload_n 1, 1) := by decide +kernel
theorem dMo_isDone_21 : decode bMo_isDone 21 = .ok (.if_icmp .eq 9, 3) := by decide +kernel
theorem dMo_isDone_24 : decode bMo_isDone 24 = .ok (.iinc 3 1, 3) := by decide +kernel
theorem dMo_isDone_27 : decode bMo_isDone 27 = .ok (.goto (-18), 3) := by decide +kernel
theorem dMo_isDone_30 : decode bMo_isDone 30 = .ok (.aload_n 0, 1) := by decide +kernel
theorem dMo_isDone_31 : decode bMo_isDone 31 = .ok (.getfield 46, 3) := by decide +kernel
theorem dMo_isDone_34 : decode bMo_isDone 34 = .ok (.aload_n 0, 1) := by decide +kernel
theorem dMo_isDone_35 : decode bMo_isDone 35 = .ok (.getfield 87, 3) := by decide +kernel
theorem dMo_isDone_38 : decode bMo_isDone 38 = .ok (.iload_n 2, 1) := by decide +kernel
theorem dMo_isDone_39 : decode bMo_isDone 39 = .ok (.iaload, 1) := by decide +kernel
theorem dMo_isDone_40 : decode bMo_isDone 40 = .ok (.iaload, 1) := by decide +kernel
theorem dMo_isDone_41 : decode bMo_isDone 41 = .ok (.iload_n 3, 1) := by decide +kernel
theorem dMo_isDone_42 : decode bMo_isDone 42 = .ok (.ishr, 1) := by decide +kernel
theorem dMo_isDone_43 : decode bMo_isDone 43 = .ok (.iconst 1, 1) := by decide +kernel
theorem dMo_isDone_44 : decode bMo_isDone 44 = .ok (.iand, 1) := by decide +kernel
theorem dMo_isDone_45 : decode bMo_isDone 45 = .ok (.iconst 1, 1) := by decide +kernel
theorem dMo_isDone_46 : decode bMo_isDone 46 = .ok (.if_icmp .ne 7, 3) := by decide +kernel
theorem dMo_isDone_49 : decode bMo_isDone 49 = .ok (.iconst 1, 1) := by decide +kernel
theorem dMo_isDone_50 : decode bMo_isDone 50 = .ok (.goto 4, 3) := by decide +kernel
theorem dMo_isDone_53 : decode bMo_isDone 53 = .ok (.iconst 0, 1) := by decide +kernel
theorem dMo_isDone_54 : decode bMo_isDone 54 = .ok (.ireturn, 1) := by decide +kernel
theorem dMo_row_0 : decode bMo_row 0 = .ok (.aload_n 0, 1) := by decide +kernel
theorem dMo_row_1 : decode bMo_row 1 = .ok (.aload_n 0, 1) := by decide +kernel
theorem dMo_row_2 : decode bMo_row 2 = .ok (.invokevirtual 222, 3) := by decide +kernel
theorem dMo_row_5 : decode bMo_row 5 = .ok (.ifCond .ne 7, 3) := by decide +kernel
theorem dMo_row_8 : decode bMo_row 8 = .ok (.iconst 1, 1) := by decide +kernel
theorem dMo_row_9 : decode bMo_row 9 = .ok (.goto 20, 3) := by decide +kernel
theorem dMo_row_12 : decode bMo_row 12 = .ok (.iload_n 1, 1) := by decide +kernel
theorem dMo_row_13 : decode bMo_row 13 = .ok (.ifCond .lt 11, 3) := by decide +kernel
theorem dMo_row_16 : decode bMo_row 16 = .ok (.iload_n 1, 1) := by decide +kernel
theorem dMo_row_17 : decode bMo_row 17 = .ok (.aload_n 0, 1) := by decide +kernel
theorem dMo_row_18 : decode bMo_row 18 = .ok (.getfield 209, 3) := by decide +kernel
theorem dMo_row_21 : decode bMo_row 21 = .ok (.if_icmp .lt 7, 3) := by decide +kernel
theorem dMo_row_24 : decode bMo_row 24 = .ok (.iconst 2, 1) := by decide +kernel
theorem dMo_row_25 : decode bMo_row 25 = .ok (.goto 4, 3) := by decide +kernel
theorem dMo_row_28 : decode bMo_row 28 = .ok (.iconst 0, 1) := by decide +kernel
theorem dMo_row_29 : decode bMo_row 29 = .ok (.putfield 93, 3) := by decide +kernel
theorem dMo_row_32 : decode bMo_row 32 = .ok (.aload_n 0, 1) := by decide +kernel
theorem dMo_row_33 : decode bMo_row 33 = .ok (.getfield 93, 3) := by decide +kernel
theorem dMo_row_36 : decode bMo_row 36 = .ok (.ifCond .le 7, 3) := by decide +kernel
theorem dMo_row_39 : decode bMo_row 39 = .ok (.iconst 0, 1) := by decide +kernel
theorem dMo_row_40 : decode bMo_row 40 = .ok (.goto 9, 3) := by decide +kernel
theorem dMo_row_43 : decode bMo_row 43 = .ok (.aload_n 0, 1) := by decide +kernel
theorem dMo_row_44 : decode bMo_row 44 = .ok (.getfield 81, 3) := by decide +kernel
theorem dMo_row_47 : decode bMo_row 47 = .ok (.iload_n 1, 1) := by decide +kernel
theorem dMo_row_48 : decode bMo_row 48 = .ok (.iaload, 1) := by decide +kernel
theorem dMo_row_49 : decode bMo_row 49 = .ok (.ireturn, 1) := by decide +kernel
end
section
theorem dMo_result_0 : decode bMo_result 0 = .ok (.aload_n 0, 1) := by decide +kernel
theorem dMo_result_1 : decode bMo_result 1 = .ok (.aload_n 0, 1) := by decide +kernel
theorem dMo_result_2 : decode bMo_result 2 = .ok (.invokevirtual 222, 3) := by decide +kernel
theorem dMo_result_5 : decode bMo_result 5 = .ok (.ifCond .ne 7, 3) := by decide +kernel
theorem dMo_result_8 : decode bMo_result 8 = .ok (.iconst 1, 1) := by decide +kernel
theorem dMo_result_9 : decode bMo_result 9 = .ok (.goto 20, 3) := by decide +kernel
theorem dMo_result_12 : decode bMo_result 12 = .ok (.iload_n 1, 1) := by decide +kernel
theorem dMo_result_13 : decode bMo_result 13 = .ok (.ifCond .lt 11, 3) := by decide +kernel
theorem dMo_result_16 : decode bMo_result 16 = .ok (.iload_n 1, 1) := by decide +kernel
theorem dMo_result_17 : decode bMo_result 17 = .ok (.aload_n 0, 1) := by decide +kernel
theorem dMo_result_18 : decode bMo_result 18 = .ok (.getfield 209, 3) := by decide +kernel
theorem dMo_result_21 : decode bMo_result 21 = .ok (.if_icmp .lt 7, 3) := by decide +kernel
theorem dMo_result_24 : decode bMo_result 24 = .ok (.iconst 2, 1) := by decide +kernel
theorem dMo_result_25 : decode bMo_result 25 = .ok (.goto 4, 3) := by decide +kernel
theorem dMo_result_28 : decode bMo_result 28 = .ok (.iconst 0, 1) := by decide +kernel
theorem dMo_result_29 : decode bMo_result 29 = .ok (.putfield 93, 3) := by decide +kernel
theorem dMo_result_32 : decode bMo_result 32 = .ok (.aload_n 0, 1) := by decide +kernel
theorem dMo_result_33 : decode bMo_result 33 = .ok (.getfield 93, 3) := by decide +kernel
theorem dMo_result_36 : decode bMo_result 36 = .ok (.ifCond .le 7, 3) := by decide +kernel
theorem dMo_result_39 : decode bMo_result 39 = .ok (.iconst 0, 1) := by decide +kernel
theorem dMo_result_40 : decode bMo_result 40 = .ok (.goto 9, 3) := by decide +kernel
theorem dMo_result_43 : decode bMo_result 43 = .ok (.aload_n 0, 1) := by decide +kernel
theorem dMo_result_44 : decode bMo_result 44 = .ok (.getfield 84, 3) := by decide +kernel
theorem dMo_result_47 : decode bMo_result 47 = .ok (.iload_n 1, 1) := by decide +kernel
theorem dMo_result_48 : decode bMo_result 48 = .ok (.iaload, 1) := by decide +kernel
theorem dMo_result_49 : decode bMo_result 49 = .ok (.ireturn, 1) := by decide +kernel
end
section
theorem dOp_init_0 : decode bOp_init 0 = .ok (.aload_n 0, 1) := by decide +kernel
theorem dOp_init_1 : decode bOp_init 1 = .ok (.invokespecial 1, 3) := by decide +kernel
theorem dOp_init_4 : decode bOp_init 4 = .ok (.return_, 1) := by decide +kernel
end
section
theorem dSp_init_0 : decode bSp_init 0 = .ok (.aload_n 0, 1) := by decide +kernel
theorem dSp_init_1 : decode bSp_init 1 = .ok (.invokespecial 3, 3) := by decide +kernel
theorem dSp_init_4 : decode bSp_init 4 = .ok (.aload_n 0, 1) := by decide +kernel
theorem dSp_init_5 : decode bSp_init 5 = .ok (.new 9, 3) := by decide +kernel
theorem dSp_init_8 : decode bSp_init 8 = .ok (.dup, 1) := by decide +kernel
theorem dSp_init_9 : decode bSp_init 9 = .ok (.invokespecial 11, 3) := by decide +kernel
theorem dSp_init_12 : decode bSp_init 12 = .ok (.putfield 12, 3) := by decide +kernel
theorem dSp_init_15 : decode bSp_init 15 = .ok (.aload_n 0, 1) := by decide +kernel
theorem dSp_init_16 : decode bSp_init 16 = .ok (.new 18, 3) := by decide +kernel
theorem dSp_init_19 : decode bSp_init 19 = .ok (.dup, 1) := by decide +kernel
theorem dSp_init_20 : decode bSp_init 20 = .ok (.invokespecial 20, 3) := by decide +kernel
theorem dSp_init_23 : decode bSp_init 23 = .ok (.putfield 21, 3) := by decide +kernel
theorem dSp_init_26 : decode bSp_init 26 = .ok (.aload_n 0, 1) := by decide +kernel
theorem dSp_init_27 : decode bSp_init 27 = .ok (.sipush 2000, 3) := by decide +kernel
theorem dSp_init_30 : decode bSp_init 30 = .ok (.newarray .long, 2) := by decide +kernel
theorem dSp_init_32 : decode bSp_init 32 = .ok (.putfield 25, 3) := by decide +kernel
theorem dSp_init_35 : decode bSp_init 35 = .ok (.aload_n 0, 1) := by decide +kernel
theorem dSp_init_36 : decode bSp_init 36 = .ok (.sipush 2000, 3) := by decide +kernel
theorem dSp_init_39 : decode bSp_init 39 = .ok (.newarray .boolean, 2) := by decide +kernel
theorem dSp_init_41 : decode bSp_init 41 = .ok (.putfield 29, 3) := by decide +kernel
theorem dSp_init_44 : decode bSp_init 44 = .ok (.return_, 1) := by decide +kernel
theorem dSp_explore_0 : decode bSp_explore 0 = .ok (.aload_n 0, 1) := by decide +kernel
theorem dSp_explore_1 : decode bSp_explore 1 = .ok (.iload_n 2, 1) := by decide +kernel
theorem dSp_explore_2 : decode bSp_explore 2 = .ok (.putfield 33, 3) := by decide +kernel
theorem dSp_explore_5 : decode bSp_explore 5 = .ok (.aload_n 0, 1) := by decide +kernel
theorem dSp_explore_6 : decode bSp_explore 6 = .ok (.iload_n 3, 1) := by decide +kernel
theorem dSp_explore_7 : decode bSp_explore 7 = .ok (.putfield 37, 3) := by decide +kernel
theorem dSp_explore_10 : decode bSp_explore 10 = .ok (.aload_n 0, 1) := by decide +kernel
theorem dSp_explore_11 : decode bSp_explore 11 = .ok (.iload 4, 2) := by decide +kernel
theorem dSp_explore_13 : decode bSp_explore 13 = .ok (.putfield 40, 3) := by decide +kernel
theorem dSp_explore_16 : decode bSp_explore 16 = .ok (.aload_n 0, 1) := by decide +kernel
theorem dSp_explore_17 : decode bSp_explore 17 = .ok (.iconst 0, 1) := by decide +kernel
theorem dSp_explore_18 : decode bSp_explore 18 = .ok (.putfield 44, 3) := by decide +kernel
theorem dSp_explore_21 : decode bSp_explore 21 = .ok (.aload_n 0, 1) := by decide +kernel
theorem dSp_explore_22 : decode bSp_explore 22 = .ok (.getfield 12, 3) := by decide +kernel
theorem dSp_explore_25 : decode bSp_explore 25 = .ok (.invokevirtual 47, 3) := by decide +kernel
theorem dSp_explore_28 : decode bSp_explore 28 = .ok (.aload_n 0, 1) := by decide +kernel
theorem dSp_explore_29 : decode bSp_explore 29 = .ok (.getfield 12, 3) := by decide +kernel
theorem dSp_explore_32 : decode bSp_explore 32 = .ok (.iconst 0, 1) := by decide +kernel
theorem dSp_explore_33 : decode bSp_explore 33 = .ok (.lconst 0, 1) := by decide +kernel
theorem dSp_explore_34 : decode bSp_explore 34 = .ok (.invokevirtual 50, 3) := by decide +kernel
theorem dSp_explore_37 : decode bSp_explore 37 = .ok (.pop, 1) := by decide +kernel
theorem dSp_explore_38 : decode bSp_explore 38 = .ok (.aload_n 0, 1) := by decide +kernel
theorem dSp_explore_39 : decode bSp_explore 39 = .ok (.getfield 25, 3) := by decide +kernel
theorem dSp_explore_42 : decode bSp_explore 42 = .ok (.iconst 0, 1) := by decide +kernel
theorem dSp_explore_43 : decode bSp_explore 43 = .ok (.lconst 1, 1) := by decide +kernel
theorem dSp_explore_44 : decode bSp_explore 44 = .ok (.lastore, 1) := by decide +kernel
theorem dSp_explore_45 : decode bSp_explore 45 = .ok (.iconst 0, 1) := by decide +kernel
theorem dSp_explore_46 : decode bSp_explore 46 = .ok (.istore 5, 2) := by decide +kernel
theorem dSp_explore_48 : decode bSp_explore 48 = .ok (.iload 5, 2) := by decide +kernel
theorem dSp_explore_50 : decode bSp_explore 50 = .ok (.sipush 2000, 3) := by decide +kernel
theorem dSp_explore_53 : decode bSp_explore 53 = .ok (.if_icmp .ge 134, 3) := by decide +kernel
theorem dSp_explore_56 : decode bSp_explore 56 = .ok (.iload 5, 2) := by decide +kernel
theorem dSp_explore_58 : decode bSp_explore 58 = .ok (.aload_n 0, 1) := by decide +kernel
theorem dSp_explore_59 : decode bSp_explore 59 = .ok (.getfield 12, 3) := by decide +kernel
theorem dSp_explore_62 : decode bSp_explore 62 = .ok (.getfield 54, 3) := by decide +kernel
theorem dSp_explore_65 : decode bSp_explore 65 = .ok (.if_icmp .ge 122, 3) := by decide +kernel
theorem dSp_explore_68 : decode bSp_explore 68 = .ok (.iconst 0, 1) := by decide +kernel
theorem dSp_explore_69 : decode bSp_explore 69 = .ok (.istore 6, 2) := by decide +kernel
theorem dSp_explore_71 : decode bSp_explore 71 = .ok (.iload 6, 2) := by decide +kernel
theorem dSp_explore_73 : decode bSp_explore 73 = .ok (.aload_n 0, 1) := by decide +kernel
theorem dSp_explore_74 : decode bSp_explore 74 = .ok (.getfield 33, 3) := by decide +kernel
theorem dSp_explore_77 : decode bSp_explore 77 = .ok (.if_icmp .ge 104, 3) := by decide +kernel
theorem dSp_explore_80 : decode bSp_explore 80 = .ok (.aload_n 0, 1) := by decide +kernel
theorem dSp_explore_81 : decode bSp_explore 81 = .ok (.aload_n 1, 1) := by decide +kernel
theorem dSp_explore_82 : decode bSp_explore 82 = .ok (.iload 5, 2) := by decide +kernel
theorem dSp_explore_84 : decode bSp_explore 84 = .ok (.iload 6, 2) := by decide +kernel
theorem dSp_explore_86 : decode bSp_explore 86 = .ok (.invokevirtual 55, 3) := by decide +kernel
theorem dSp_explore_89 : decode bSp_explore 89 = .ok (.ifCond .ne 6, 3) := by decide +kernel
theorem dSp_explore_92 : decode bSp_explore 92 = .ok (.goto 83, 3) := by decide +kernel
theorem dSp_explore_95 : decode bSp_explore 95 = .ok (.aload_n 0, 1) := by decide +kernel
theorem dSp_explore_96 : decode bSp_explore 96 = .ok (.getfield 12, 3) := by decide +kernel
theorem dSp_explore_99 : decode bSp_explore 99 = .ok (.getfield 54, 3) := by decide +kernel
theorem dSp_explore_102 : decode bSp_explore 102 = .ok (.istore 7, 2) := by decide +kernel
theorem dSp_explore_104 : decode bSp_explore 104 = .ok (.aload_n 0, 1) := by decide +kernel
theorem dSp_explore_105 : decode bSp_explore 105 = .ok (.getfield 12, 3) := by decide +kernel
theorem dSp_explore_108 : decode bSp_explore 108 = .ok (.aload_n 0, 1) := by decide +kernel
theorem dSp_explore_109 : decode bSp_explore 109 = .ok (.iload 5, 2) := by decide +kernel
theorem dSp_explore_111 : decode bSp_explore 111 = .ok (.iload 6, 2) := by decide +kernel
theorem dSp_explore_113 : decode bSp_explore 113 = .ok (.invokevirtual 59, 3) := by decide +kernel
theorem dSp_explore_116 : decode bSp_explore 116 = .ok (.aload_n 0, 1) := by decide +kernel
theorem dSp_explore_117 : decode bSp_explore 117 = .ok (.getfield 21, 3) := by decide +kernel
theorem dSp_explore_120 : decode bSp_explore 120 = .ok (.getfield 63, 3) := by decide +kernel
theorem dSp_explore_123 : decode bSp_explore 123 = .ok (.invokevirtual 50, 3) := by decide +kernel
theorem dSp_explore_126 : decode bSp_explore 126 = .ok (.istore 8, 2) := by decide +kernel
theorem dSp_explore_128 : decode bSp_explore 128 = .ok (.iload 8, 2) := by decide +kernel
theorem dSp_explore_130 : decode bSp_explore 130 = .ok (.iconst (-1), 1) := by decide +kernel
theorem dSp_explore_131 : decode bSp_explore 131 = .ok (.if_icmp .ne 5, 3) := by decide +kernel
theorem dSp_explore_134 : decode bSp_explore 134 = .ok (.iconst 0, 1) := by decide +kernel
theorem dSp_explore_135 : decode bSp_explore 135 = .ok (.ireturn, 1) := by decide +kernel
theorem dSp_explore_136 : decode bSp_explore 136 = .ok (.aload_n 0, 1) := by decide +kernel
theorem dSp_explore_137 : decode bSp_explore 137 = .ok (.getfield 25, 3) := by decide +kernel
theorem dSp_explore_140 : decode bSp_explore 140 = .ok (.iload 8, 2) := by decide +kernel
theorem dSp_explore_142 : decode bSp_explore 142 = .ok (.iload 8, 2) := by decide +kernel
theorem dSp_explore_144 : decode bSp_explore 144 = .ok (.iload 7, 2) := by decide +kernel
theorem dSp_explore_146 : decode bSp_explore 146 = .ok (.if_icmp .ne 13, 3) := by decide +kernel
theorem dSp_explore_149 : decode bSp_explore 149 = .ok (.aload_n 0, 1) := by decide +kernel
theorem dSp_explore_150 : decode bSp_explore 150 = .ok (.getfield 25, 3) := by decide +kernel
theorem dSp_explore_153 : decode bSp_explore 153 = .ok (.iload 5, 2) := by decide +kernel
theorem dSp_explore_155 : decode bSp_explore 155 = .ok (.laload, 1) := by decide +kernel
theorem dSp_explore_156 : decode bSp_explore 156 = .ok (.goto 18, 3) := by decide +kernel
theorem dSp_explore_159 : decode bSp_explore 159 = .ok (.aload_n 0, 1) := by decide +kernel
theorem dSp_explore_160 : decode bSp_explore 160 = .ok (.getfield 25, 3) := by decide +kernel
theorem dSp_explore_163 : decode bSp_explore 163 = .ok (.iload 8, 2) := by decide +kernel
theorem dSp_explore_165 : decode bSp_explore 165 = .ok (.laload, 1) := by decide +kernel
theorem dSp_explore_166 : decode bSp_explore 166 = .ok (.aload_n 0, 1) := by decide +kernel
theorem dSp_explore_167 : decode bSp_explore 167 = .ok (.getfield 25, 3) := by decide +kernel
theorem dSp_explore_170 : decode bSp_explore 170 = .ok (.iload 5, 2) := by decide +kernel
theorem dSp_explore_172 : decode bSp_explore 172 = .ok (.laload, 1) := by decide +kernel
theorem dSp_explore_173 : decode bSp_explore 173 = .ok (.ladd, 1) := by decide +kernel
theorem dSp_explore_174 : decode bSp_explore 174 = .ok (.lastore, 1) := by decide +kernel
theorem dSp_explore_175 : decode bSp_explore 175 = .ok (.iinc 6 1, 3) := by decide +kernel
theorem dSp_explore_178 : decode bSp_explore 178 = .ok (.goto (-107), 3) := by decide +kernel
theorem dSp_explore_181 : decode bSp_explore 181 = .ok (.iinc 5 1, 3) := by decide +kernel
theorem dSp_explore_184 : decode bSp_explore 184 = .ok (.goto (-136), 3) := by decide +kernel
theorem dSp_explore_187 : decode bSp_explore 187 = .ok (.iconst 1, 1) := by decide +kernel
theorem dSp_explore_188 : decode bSp_explore 188 = .ok (.ireturn, 1) := by decide +kernel
theorem dSp_step_0 : decode bSp_step 0 = .ok (.aload_n 0, 1) := by decide +kernel
theorem dSp_step_1 : decode bSp_step 1 = .ok (.getfield 12, 3) := by decide +kernel
theorem dSp_step_4 : decode bSp_step 4 = .ok (.getfield 67, 3) := by decide +kernel
theorem dSp_step_7 : decode bSp_step 7 = .ok (.iload_n 2, 1) := by decide +kernel
theorem dSp_step_8 : decode bSp_step 8 = .ok (.iaload, 1) := by decide +kernel
theorem dSp_step_9 : decode bSp_step 9 = .ok (.ldc 71, 2) := by decide +kernel
theorem dSp_step_11 : decode bSp_step 11 = .ok (.iand, 1) := by decide +kernel
theorem dSp_step_12 : decode bSp_step 12 = .ok (.istore 4, 2) := by decide +kernel
theorem dSp_step_14 : decode bSp_step 14 = .ok (.aload_n 1, 1) := by decide +kernel
theorem dSp_step_15 : decode bSp_step 15 = .ok (.getfield 72, 3) := by decide +kernel
theorem dSp_step_18 : decode bSp_step 18 = .ok (.iload_n 3, 1) := by decide +kernel
theorem dSp_step_19 : decode bSp_step 19 = .ok (.aaload, 1) := by decide +kernel
theorem dSp_step_20 : decode bSp_step 20 = .ok (.astore 5, 2) := by decide +kernel
theorem dSp_step_22 : decode bSp_step 22 = .ok (.aload_n 0, 1) := by decide +kernel
theorem dSp_step_23 : decode bSp_step 23 = .ok (.getfield 40, 3) := by decide +kernel
theorem dSp_step_26 : decode bSp_step 26 = .ok (.ifCond .eq 11, 3) := by decide +kernel
theorem dSp_step_29 : decode bSp_step 29 = .ok (.aload 5, 2) := by decide +kernel
theorem dSp_step_31 : decode bSp_step 31 = .ok (.getfield 78, 3) := by decide +kernel
theorem dSp_step_34 : decode bSp_step 34 = .ok (.goto 8, 3) := by decide +kernel
theorem dSp_step_37 : decode bSp_step 37 = .ok (.aload 5, 2) := by decide +kernel
theorem dSp_step_39 : decode bSp_step 39 = .ok (.getfield 83, 3) := by decide +kernel
theorem dSp_step_42 : decode bSp_step 42 = .ok (.istore 6, 2) := by decide +kernel
theorem dSp_step_44 : decode bSp_step 44 = .ok (.iload 4, 2) := by decide +kernel
theorem dSp_step_46 : decode bSp_step 46 = .ok (.iload_n 3, 1) := by decide +kernel
theorem dSp_step_47 : decode bSp_step 47 = .ok (.iushr, 1) := by decide +kernel
theorem dSp_step_48 : decode bSp_step 48 = .ok (.iconst 1, 1) := by decide +kernel
theorem dSp_step_49 : decode bSp_step 49 = .ok (.iand, 1) := by decide +kernel
theorem dSp_step_50 : decode bSp_step 50 = .ok (.ifCond .ne 13, 3) := by decide +kernel
theorem dSp_step_53 : decode bSp_step 53 = .ok (.iload 6, 2) := by decide +kernel
theorem dSp_step_55 : decode bSp_step 55 = .ok (.iload 4, 2) := by decide +kernel
theorem dSp_step_57 : decode bSp_step 57 = .ok (.iconst (-1), 1) := by decide +kernel
theorem dSp_step_58 : decode bSp_step 58 = .ok (.ixor, 1) := by decide +kernel
theorem dSp_step_59 : decode bSp_step 59 = .ok (.iand, 1) := by decide +kernel
theorem dSp_step_60 : decode bSp_step 60 = .ok (.ifCond .eq 5, 3) := by decide +kernel
theorem dSp_step_63 : decode bSp_step 63 = .ok (.iconst 0, 1) := by decide +kernel
theorem dSp_step_64 : decode bSp_step 64 = .ok (.ireturn, 1) := by decide +kernel
theorem dSp_step_65 : decode bSp_step 65 = .ok (.aload_n 0, 1) := by decide +kernel
theorem dSp_step_66 : decode bSp_step 66 = .ok (.getfield 21, 3) := by decide +kernel
theorem dSp_step_69 : decode bSp_step 69 = .ok (.aload_n 0, 1) := by decide +kernel
theorem dSp_step_70 : decode bSp_step 70 = .ok (.getfield 12, 3) := by decide +kernel
theorem dSp_step_73 : decode bSp_step 73 = .ok (.getfield 86, 3) := by decide +kernel
theorem dSp_step_76 : decode bSp_step 76 = .ok (.iload_n 2, 1) := by decide +kernel
theorem dSp_step_77 : decode bSp_step 77 = .ok (.laload, 1) := by decide +kernel
theorem dSp_step_78 : decode bSp_step 78 = .ok (.aload_n 0, 1) := by decide +kernel
theorem dSp_step_79 : decode bSp_step 79 = .ok (.getfield 12, 3) := by decide +kernel
theorem dSp_step_82 : decode bSp_step 82 = .ok (.getfield 67, 3) := by decide +kernel
theorem dSp_step_85 : decode bSp_step 85 = .ok (.iload_n 2, 1) := by decide +kernel
theorem dSp_step_86 : decode bSp_step 86 = .ok (.iaload, 1) := by decide +kernel
theorem dSp_step_87 : decode bSp_step 87 = .ok (.bipush 16, 2) := by decide +kernel
theorem dSp_step_89 : decode bSp_step 89 = .ok (.iushr, 1) := by decide +kernel
theorem dSp_step_90 : decode bSp_step 90 = .ok (.invokevirtual 89, 3) := by decide +kernel
theorem dSp_step_93 : decode bSp_step 93 = .ok (.aload_n 0, 1) := by decide +kernel
theorem dSp_step_94 : decode bSp_step 94 = .ok (.getfield 21, 3) := by decide +kernel
theorem dSp_step_97 : decode bSp_step 97 = .ok (.aload_n 1, 1) := by decide +kernel
theorem dSp_step_98 : decode bSp_step 98 = .ok (.getfield 93, 3) := by decide +kernel
theorem dSp_step_101 : decode bSp_step 101 = .ok (.aload 5, 2) := by decide +kernel
theorem dSp_step_103 : decode bSp_step 103 = .ok (.aload_n 1, 1) := by decide +kernel
theorem dSp_step_104 : decode bSp_step 104 = .ok (.getfield 72, 3) := by decide +kernel
theorem dSp_step_107 : decode bSp_step 107 = .ok (.invokevirtual 96, 3) := by decide +kernel
theorem dSp_step_110 : decode bSp_step 110 = .ok (.aload_n 0, 1) := by decide +kernel
theorem dSp_step_111 : decode bSp_step 111 = .ok (.getfield 37, 3) := by decide +kernel
theorem dSp_step_114 : decode bSp_step 114 = .ok (.iload_n 3, 1) := by decide +kernel
theorem dSp_step_115 : decode bSp_step 115 = .ok (.iushr, 1) := by decide +kernel
theorem dSp_step_116 : decode bSp_step 116 = .ok (.iconst 1, 1) := by decide +kernel
theorem dSp_step_117 : decode bSp_step 117 = .ok (.iand, 1) := by decide +kernel
theorem dSp_step_118 : decode bSp_step 118 = .ok (.ifCond .ne 7, 3) := by decide +kernel
theorem dSp_step_121 : decode bSp_step 121 = .ok (.iconst 1, 1) := by decide +kernel
theorem dSp_step_122 : decode bSp_step 122 = .ok (.goto 4, 3) := by decide +kernel
theorem dSp_step_125 : decode bSp_step 125 = .ok (.iconst 0, 1) := by decide +kernel
theorem dSp_step_126 : decode bSp_step 126 = .ok (.istore 7, 2) := by decide +kernel
theorem dSp_step_128 : decode bSp_step 128 = .ok (.iload 7, 2) := by decide +kernel
theorem dSp_step_130 : decode bSp_step 130 = .ok (.ifCond .ne 18, 3) := by decide +kernel
theorem dSp_step_133 : decode bSp_step 133 = .ok (.aload_n 0, 1) := by decide +kernel
theorem dSp_step_134 : decode bSp_step 134 = .ok (.getfield 21, 3) := by decide +kernel
theorem dSp_step_137 : decode bSp_step 137 = .ok (.getfield 100, 3) := by decide +kernel
theorem dSp_step_140 : decode bSp_step 140 = .ok (.aload 5, 2) := by decide +kernel
theorem dSp_step_142 : decode bSp_step 142 = .ok (.getfield 103, 3) := by decide +kernel
theorem dSp_step_145 : decode bSp_step 145 = .ok (.if_icmp .ne 7, 3) := by decide +kernel
theorem dSp_step_148 : decode bSp_step 148 = .ok (.iconst 1, 1) := by decide +kernel
theorem dSp_step_149 : decode bSp_step 149 = .ok (.goto 4, 3) := by decide +kernel
theorem dSp_step_152 : decode bSp_step 152 = .ok (.iconst 0, 1) := by decide +kernel
theorem dSp_step_153 : decode bSp_step 153 = .ok (.ireturn, 1) := by decide +kernel
theorem dSp_keyBehind_0 : decode bSp_keyBehind 0 = .ok (.aload_n 0, 1) := by decide +kernel
theorem dSp_keyBehind_1 : decode bSp_keyBehind 1 = .ok (.getfield 12, 3) := by decide +kernel
theorem dSp_keyBehind_4 : decode bSp_keyBehind 4 = .ok (.getfield 67, 3) := by decide +kernel
theorem dSp_keyBehind_7 : decode bSp_keyBehind 7 = .ok (.iload_n 1, 1) := by decide +kernel
theorem dSp_keyBehind_8 : decode bSp_keyBehind 8 = .ok (.iaload, 1) := by decide +kernel
theorem dSp_keyBehind_9 : decode bSp_keyBehind 9 = .ok (.ldc 71, 2) := by decide +kernel
theorem dSp_keyBehind_11 : decode bSp_keyBehind 11 = .ok (.iand, 1) := by decide +kernel
theorem dSp_keyBehind_12 : decode bSp_keyBehind 12 = .ok (.iconst 1, 1) := by decide +kernel
theorem dSp_keyBehind_13 : decode bSp_keyBehind 13 = .ok (.iload_n 2, 1) := by decide +kernel
theorem dSp_keyBehind_14 : decode bSp_keyBehind 14 = .ok (.ishl, 1) := by decide +kernel
theorem dSp_keyBehind_15 : decode bSp_keyBehind 15 = .ok (.ior, 1) := by decide +kernel
theorem dSp_keyBehind_16 : decode bSp_keyBehind 16 = .ok (.aload_n 0, 1) := by decide +kernel
theorem dSp_keyBehind_17 : decode bSp_keyBehind 17 = .ok (.getfield 21, 3) := by decide +kernel
theorem dSp_keyBehind_20 : decode bSp_keyBehind 20 = .ok (.getfield 104, 3) := by decide +kernel
theorem dSp_keyBehind_23 : decode bSp_keyBehind 23 = .ok (.bipush 16, 2) := by decide +kernel
theorem dSp_keyBehind_25 : decode bSp_keyBehind 25 = .ok (.ishl, 1) := by decide +kernel
theorem dSp_keyBehind_26 : decode bSp_keyBehind 26 = .ok (.ior, 1) := by decide +kernel
theorem dSp_keyBehind_27 : decode bSp_keyBehind 27 = .ok (.ireturn, 1) := by decide +kernel
theorem dSp_waysToEnds_0 : decode bSp_waysToEnds 0 = .ok (.lconst 0, 1) := by decide +kernel
theorem dSp_waysToEnds_1 : decode bSp_waysToEnds 1 = .ok (.lstore_n 1, 1) := by decide +kernel
theorem dSp_waysToEnds_2 : decode bSp_waysToEnds 2 = .ok (.iconst 0, 1) := by decide +kernel
theorem dSp_waysToEnds_3 : decode bSp_waysToEnds 3 = .ok (.istore_n 3, 1) := by decide +kernel
theorem dSp_waysToEnds_4 : decode bSp_waysToEnds 4 = .ok (.iload_n 3, 1) := by decide +kernel
theorem dSp_waysToEnds_5 : decode bSp_waysToEnds 5 = .ok (.aload_n 0, 1) := by decide +kernel
theorem dSp_waysToEnds_6 : decode bSp_waysToEnds 6 = .ok (.getfield 12, 3) := by decide +kernel
theorem dSp_waysToEnds_9 : decode bSp_waysToEnds 9 = .ok (.getfield 54, 3) := by decide +kernel
theorem dSp_waysToEnds_12 : decode bSp_waysToEnds 12 = .ok (.if_icmp .ge 26, 3) := by decide +kernel
theorem dSp_waysToEnds_15 : decode bSp_waysToEnds 15 = .ok (.aload_n 0, 1) := by decide +kernel
theorem dSp_waysToEnds_16 : decode bSp_waysToEnds 16 = .ok (.iload_n 3, 1) := by decide +kernel
theorem dSp_waysToEnds_17 : decode bSp_waysToEnds 17 = .ok (.invokevirtual 110, 3) := by decide +kernel
theorem dSp_waysToEnds_20 : decode bSp_waysToEnds 20 = .ok (.ifCond .eq 12, 3) := by decide +kernel
theorem dSp_waysToEnds_23 : decode bSp_waysToEnds 23 = .ok (.lload_n 1, 1) := by decide +kernel
theorem dSp_waysToEnds_24 : decode bSp_waysToEnds 24 = .ok (.aload_n 0, 1) := by decide +kernel
theorem dSp_waysToEnds_25 : decode bSp_waysToEnds 25 = .ok (.getfield 25, 3) := by decide +kernel
theorem dSp_waysToEnds_28 : decode bSp_waysToEnds 28 = .ok (.iload_n 3, 1) := by decide +kernel
theorem dSp_waysToEnds_29 : decode bSp_waysToEnds 29 = .ok (.laload, 1) := by decide +kernel
theorem dSp_waysToEnds_30 : decode bSp_waysToEnds 30 = .ok (.ladd, 1) := by decide +kernel
theorem dSp_waysToEnds_31 : decode bSp_waysToEnds 31 = .ok (.lstore_n 1, 1) := by decide +kernel
theorem dSp_waysToEnds_32 : decode bSp_waysToEnds 32 = .ok (.iinc 3 1, 3) := by decide +kernel
theorem dSp_waysToEnds_35 : decode bSp_waysToEnds 35 = .ok (.goto (-31), 3) := by decide +kernel
theorem dSp_waysToEnds_38 : decode bSp_waysToEnds 38 = .ok (.lload_n 1, 1) := by decide +kernel
theorem dSp_waysToEnds_39 : decode bSp_waysToEnds 39 = .ok (.lreturn, 1) := by decide +kernel
theorem dSp_isEnd_0 : decode bSp_isEnd 0 = .ok (.aload_n 0, 1) := by decide +kernel
theorem dSp_isEnd_1 : decode bSp_isEnd 1 = .ok (.getfield 37, 3) := by decide +kernel
theorem dSp_isEnd_4 : decode bSp_isEnd 4 = .ok (.aload_n 0, 1) := by decide +kernel
theorem dSp_isEnd_5 : decode bSp_isEnd 5 = .ok (.getfield 12, 3) := by decide +kernel
theorem dSp_isEnd_8 : decode bSp_isEnd 8 = .ok (.getfield 67, 3) := by decide +kernel
theorem dSp_isEnd_11 : decode bSp_isEnd 11 = .ok (.iload_n 1, 1) := by decide +kernel
theorem dSp_isEnd_12 : decode bSp_isEnd 12 = .ok (.iaload, 1) := by decide +kernel
theorem dSp_isEnd_13 : decode bSp_isEnd 13 = .ok (.iconst (-1), 1) := by decide +kernel
theorem dSp_isEnd_14 : decode bSp_isEnd 14 = .ok (.ixor, 1) := by decide +kernel
theorem dSp_isEnd_15 : decode bSp_isEnd 15 = .ok (.iand, 1) := by decide +kernel
theorem dSp_isEnd_16 : decode bSp_isEnd 16 = .ok (.ifCond .ne 7, 3) := by decide +kernel
theorem dSp_isEnd_19 : decode bSp_isEnd 19 = .ok (.iconst 1, 1) := by decide +kernel
theorem dSp_isEnd_20 : decode bSp_isEnd 20 = .ok (.goto 4, 3) := by decide +kernel
theorem dSp_isEnd_23 : decode bSp_isEnd 23 = .ok (.iconst 0, 1) := by decide +kernel
theorem dSp_isEnd_24 : decode bSp_isEnd 24 = .ok (.ireturn, 1) := by decide +kernel
theorem dSp_statesAtEnds_0 : decode bSp_statesAtEnds 0 = .ok (.aload_n 1, 1) := by decide +kernel
theorem dSp_statesAtEnds_1 : decode bSp_statesAtEnds 1 = .ok (.invokevirtual 47, 3) := by decide +kernel
theorem dSp_statesAtEnds_4 : decode bSp_statesAtEnds 4 = .ok (.iconst 0, 1) := by decide +kernel
theorem dSp_statesAtEnds_5 : decode bSp_statesAtEnds 5 = .ok (.istore_n 2, 1) := by decide +kernel
theorem dSp_statesAtEnds_6 : decode bSp_statesAtEnds 6 = .ok (.iload_n 2, 1) := by decide +kernel
theorem dSp_statesAtEnds_7 : decode bSp_statesAtEnds 7 = .ok (.aload_n 0, 1) := by decide +kernel
theorem dSp_statesAtEnds_8 : decode bSp_statesAtEnds 8 = .ok (.getfield 12, 3) := by decide +kernel
theorem dSp_statesAtEnds_11 : decode bSp_statesAtEnds 11 = .ok (.getfield 54, 3) := by decide +kernel
theorem dSp_statesAtEnds_14 : decode bSp_statesAtEnds 14 = .ok (.if_icmp .ge 43, 3) := by decide +kernel
theorem dSp_statesAtEnds_17 : decode bSp_statesAtEnds 17 = .ok (.aload_n 0, 1) := by decide +kernel
theorem dSp_statesAtEnds_18 : decode bSp_statesAtEnds 18 = .ok (.iload_n 2, 1) := by decide +kernel
theorem dSp_statesAtEnds_19 : decode bSp_statesAtEnds 19 = .ok (.invokevirtual 110, 3) := by decide +kernel
theorem dSp_statesAtEnds_22 : decode bSp_statesAtEnds 22 = .ok (.ifCond .eq 29, 3) := by decide +kernel
theorem dSp_statesAtEnds_25 : decode bSp_statesAtEnds 25 = .ok (.aload_n 1, 1) := by decide +kernel
theorem dSp_statesAtEnds_26 : decode bSp_statesAtEnds 26 = .ok (.aload_n 0, 1) := by decide +kernel
theorem dSp_statesAtEnds_27 : decode bSp_statesAtEnds 27 = .ok (.getfield 12, 3) := by decide +kernel
theorem dSp_statesAtEnds_30 : decode bSp_statesAtEnds 30 = .ok (.getfield 67, 3) := by decide +kernel
theorem dSp_statesAtEnds_33 : decode bSp_statesAtEnds 33 = .ok (.iload_n 2, 1) := by decide +kernel
theorem dSp_statesAtEnds_34 : decode bSp_statesAtEnds 34 = .ok (.iaload, 1) := by decide +kernel
theorem dSp_statesAtEnds_35 : decode bSp_statesAtEnds 35 = .ok (.bipush 16, 2) := by decide +kernel
theorem dSp_statesAtEnds_37 : decode bSp_statesAtEnds 37 = .ok (.iushr, 1) := by decide +kernel
theorem dSp_statesAtEnds_38 : decode bSp_statesAtEnds 38 = .ok (.aload_n 0, 1) := by decide +kernel
theorem dSp_statesAtEnds_39 : decode bSp_statesAtEnds 39 = .ok (.getfield 12, 3) := by decide +kernel
theorem dSp_statesAtEnds_42 : decode bSp_statesAtEnds 42 = .ok (.getfield 86, 3) := by decide +kernel
theorem dSp_statesAtEnds_45 : decode bSp_statesAtEnds 45 = .ok (.iload_n 2, 1) := by decide +kernel
theorem dSp_statesAtEnds_46 : decode bSp_statesAtEnds 46 = .ok (.laload, 1) := by decide +kernel
theorem dSp_statesAtEnds_47 : decode bSp_statesAtEnds 47 = .ok (.invokevirtual 50, 3) := by decide +kernel
theorem dSp_statesAtEnds_50 : decode bSp_statesAtEnds 50 = .ok (.pop, 1) := by decide +kernel
theorem dSp_statesAtEnds_51 : decode bSp_statesAtEnds 51 = .ok (.iinc 2 1, 3) := by decide +kernel
theorem dSp_statesAtEnds_54 : decode bSp_statesAtEnds 54 = .ok (.goto (-48), 3) := by decide +kernel
theorem dSp_statesAtEnds_57 : decode bSp_statesAtEnds 57 = .ok (.aload_n 1, 1) := by decide +kernel
theorem dSp_statesAtEnds_58 : decode bSp_statesAtEnds 58 = .ok (.getfield 54, 3) := by decide +kernel
theorem dSp_statesAtEnds_61 : decode bSp_statesAtEnds 61 = .ok (.ireturn, 1) := by decide +kernel
end
section
theorem dSp_markHopeful_0 : decode bSp_markHopeful 0 = .ok (.aload_n 0, 1) := by decide +kernel
theorem dSp_markHopeful_1 : decode bSp_markHopeful 1 = .ok (.getfield 44, 3) := by decide +kernel
theorem dSp_markHopeful_4 : decode bSp_markHopeful 4 = .ok (.ifCond .eq 4, 3) := by decide +kernel
theorem dSp_markHopeful_7 : decode bSp_markHopeful 7 = .ok (.return_, 1) := by decide +kernel
theorem dSp_markHopeful_8 : decode bSp_markHopeful 8 = .ok (.aload_n 0, 1) := by decide +kernel
theorem dSp_markHopeful_9 : decode bSp_markHopeful 9 = .ok (.iconst 1, 1) := by decide +kernel
theorem dSp_markHopeful_10 : decode bSp_markHopeful 10 = .ok (.putfield 44, 3) := by decide +kernel
theorem dSp_markHopeful_13 : decode bSp_markHopeful 13 = .ok (.aload_n 0, 1) := by decide +kernel
theorem dSp_markHopeful_14 : decode bSp_markHopeful 14 = .ok (.getfield 12, 3) := by decide +kernel
theorem dSp_markHopeful_17 : decode bSp_markHopeful 17 = .ok (.getfield 54, 3) := by decide +kernel
theorem dSp_markHopeful_20 : decode bSp_markHopeful 20 = .ok (.iconst 1, 1) := by decide +kernel
theorem dSp_markHopeful_21 : decode bSp_markHopeful 21 = .ok (.isub, 1) := by decide +kernel
theorem dSp_markHopeful_22 : decode bSp_markHopeful 22 = .ok (.istore_n 2, 1) := by decide +kernel
theorem dSp_markHopeful_23 : decode bSp_markHopeful 23 = .ok (.iload_n 2, 1) := by decide +kernel
theorem dSp_markHopeful_24 : decode bSp_markHopeful 24 = .ok (.ifCond .lt 76, 3) := by decide +kernel
theorem dSp_markHopeful_27 : decode bSp_markHopeful 27 = .ok (.aload_n 0, 1) := by decide +kernel
theorem dSp_markHopeful_28 : decode bSp_markHopeful 28 = .ok (.iload_n 2, 1) := by decide +kernel
theorem dSp_markHopeful_29 : decode bSp_markHopeful 29 = .ok (.invokevirtual 110, 3) := by decide +kernel
theorem dSp_markHopeful_32 : decode bSp_markHopeful 32 = .ok (.istore_n 3, 1) := by decide +kernel
theorem dSp_markHopeful_33 : decode bSp_markHopeful 33 = .ok (.iconst 0, 1) := by decide +kernel
theorem dSp_markHopeful_34 : decode bSp_markHopeful 34 = .ok (.istore 4, 2) := by decide +kernel
theorem dSp_markHopeful_36 : decode bSp_markHopeful 36 = .ok (.iload 4, 2) := by decide +kernel
theorem dSp_markHopeful_38 : decode bSp_markHopeful 38 = .ok (.aload_n 0, 1) := by decide +kernel
theorem dSp_markHopeful_39 : decode bSp_markHopeful 39 = .ok (.getfield 33, 3) := by decide +kernel
theorem dSp_markHopeful_42 : decode bSp_markHopeful 42 = .ok (.if_icmp .ge 45, 3) := by decide +kernel
theorem dSp_markHopeful_45 : decode bSp_markHopeful 45 = .ok (.iload_n 3, 1) := by decide +kernel
theorem dSp_markHopeful_46 : decode bSp_markHopeful 46 = .ok (.ifCond .ne 41, 3) := by decide +kernel
theorem dSp_markHopeful_49 : decode bSp_markHopeful 49 = .ok (.aload_n 0, 1) := by decide +kernel
theorem dSp_markHopeful_50 : decode bSp_markHopeful 50 = .ok (.aload_n 1, 1) := by decide +kernel
theorem dSp_markHopeful_51 : decode bSp_markHopeful 51 = .ok (.iload_n 2, 1) := by decide +kernel
theorem dSp_markHopeful_52 : decode bSp_markHopeful 52 = .ok (.iload 4, 2) := by decide +kernel
theorem dSp_markHopeful_54 : decode bSp_markHopeful 54 = .ok (.invokevirtual 114, 3) := by decide +kernel
theorem dSp_markHopeful_57 : decode bSp_markHopeful 57 = .ok (.istore 5, 2) := by decide +kernel
theorem dSp_markHopeful_59 : decode bSp_markHopeful 59 = .ok (.iload 5, 2) := by decide +kernel
theorem dSp_markHopeful_61 : decode bSp_markHopeful 61 = .ok (.iconst (-1), 1) := by decide +kernel
theorem dSp_markHopeful_62 : decode bSp_markHopeful 62 = .ok (.if_icmp .eq 17, 3) := by decide +kernel
theorem dSp_markHopeful_65 : decode bSp_markHopeful 65 = .ok (.aload_n 0, 1) := by decide +kernel
theorem dSp_markHopeful_66 : decode bSp_markHopeful 66 = .ok (.getfield 29, 3) := by decide +kernel
theorem dSp_markHopeful_69 : decode bSp_markHopeful 69 = .ok (.iload 5, 2) := by decide +kernel
theorem dSp_markHopeful_71 : decode bSp_markHopeful 71 = .ok (.baload, 1) := by decide +kernel
theorem dSp_markHopeful_72 : decode bSp_markHopeful 72 = .ok (.ifCond .eq 7, 3) := by decide +kernel
theorem dSp_markHopeful_75 : decode bSp_markHopeful 75 = .ok (.iconst 1, 1) := by decide +kernel
theorem dSp_markHopeful_76 : decode bSp_markHopeful 76 = .ok (.goto 4, 3) := by decide +kernel
theorem dSp_markHopeful_79 : decode bSp_markHopeful 79 = .ok (.iconst 0, 1) := by decide +kernel
theorem dSp_markHopeful_80 : decode bSp_markHopeful 80 = .ok (.istore_n 3, 1) := by decide +kernel
theorem dSp_markHopeful_81 : decode bSp_markHopeful 81 = .ok (.iinc 4 1, 3) := by decide +kernel
theorem dSp_markHopeful_84 : decode bSp_markHopeful 84 = .ok (.goto (-48), 3) := by decide +kernel
theorem dSp_markHopeful_87 : decode bSp_markHopeful 87 = .ok (.aload_n 0, 1) := by decide +kernel
theorem dSp_markHopeful_88 : decode bSp_markHopeful 88 = .ok (.getfield 29, 3) := by decide +kernel
theorem dSp_markHopeful_91 : decode bSp_markHopeful 91 = .ok (.iload_n 2, 1) := by decide +kernel
theorem dSp_markHopeful_92 : decode bSp_markHopeful 92 = .ok (.iload_n 3, 1) := by decide +kernel
theorem dSp_markHopeful_93 : decode bSp_markHopeful 93 = .ok (.bastore, 1) := by decide +kernel
theorem dSp_markHopeful_94 : decode bSp_markHopeful 94 = .ok (.iinc 2 (-1), 3) := by decide +kernel
theorem dSp_markHopeful_97 : decode bSp_markHopeful 97 = .ok (.goto (-74), 3) := by decide +kernel
theorem dSp_markHopeful_100 : decode bSp_markHopeful 100 = .ok (.return_, 1) := by decide +kernel
theorem dSp_target_0 : decode bSp_target 0 = .ok (.aload_n 0, 1) := by decide +kernel
theorem dSp_target_1 : decode bSp_target 1 = .ok (.aload_n 1, 1) := by decide +kernel
theorem dSp_target_2 : decode bSp_target 2 = .ok (.iload_n 2, 1) := by decide +kernel
theorem dSp_target_3 : decode bSp_target 3 = .ok (.iload_n 3, 1) := by decide +kernel
theorem dSp_target_4 : decode bSp_target 4 = .ok (.invokevirtual 55, 3) := by decide +kernel
theorem dSp_target_7 : decode bSp_target 7 = .ok (.ifCond .ne 5, 3) := by decide +kernel
theorem dSp_target_10 : decode bSp_target 10 = .ok (.iconst (-1), 1) := by decide +kernel
theorem dSp_target_11 : decode bSp_target 11 = .ok (.ireturn, 1) := by decide +kernel
theorem dSp_target_12 : decode bSp_target 12 = .ok (.aload_n 0, 1) := by decide +kernel
theorem dSp_target_13 : decode bSp_target 13 = .ok (.getfield 12, 3) := by decide +kernel
theorem dSp_target_16 : decode bSp_target 16 = .ok (.aload_n 0, 1) := by decide +kernel
theorem dSp_target_17 : decode bSp_target 17 = .ok (.iload_n 2, 1) := by decide +kernel
theorem dSp_target_18 : decode bSp_target 18 = .ok (.iload_n 3, 1) := by decide +kernel
theorem dSp_target_19 : decode bSp_target 19 = .ok (.invokevirtual 59, 3) := by decide +kernel
theorem dSp_target_22 : decode bSp_target 22 = .ok (.aload_n 0, 1) := by decide +kernel
theorem dSp_target_23 : decode bSp_target 23 = .ok (.getfield 21, 3) := by decide +kernel
theorem dSp_target_26 : decode bSp_target 26 = .ok (.getfield 63, 3) := by decide +kernel
theorem dSp_target_29 : decode bSp_target 29 = .ok (.invokevirtual 107, 3) := by decide +kernel
theorem dSp_target_32 : decode bSp_target 32 = .ok (.ireturn, 1) := by decide +kernel
end
section
theorem dSt_init_0 : decode bSt_init 0 = .ok (.aload_n 0, 1) := by decide +kernel
theorem dSt_init_1 : decode bSt_init 1 = .ok (.invokespecial 3, 3) := by decide +kernel
theorem dSt_init_4 : decode bSt_init 4 = .ok (.return_, 1) := by decide +kernel
theorem dSt_become_0 : decode bSt_become 0 = .ok (.aload_n 0, 1) := by decide +kernel
theorem dSt_become_1 : decode bSt_become 1 = .ok (.lload_n 1, 1) := by decide +kernel
theorem dSt_become_2 : decode bSt_become 2 = .ok (.putfield 9, 3) := by decide +kernel
theorem dSt_become_5 : decode bSt_become 5 = .ok (.aload_n 0, 1) := by decide +kernel
theorem dSt_become_6 : decode bSt_become 6 = .ok (.iload_n 3, 1) := by decide +kernel
theorem dSt_become_7 : decode bSt_become 7 = .ok (.putfield 15, 3) := by decide +kernel
theorem dSt_become_10 : decode bSt_become 10 = .ok (.return_, 1) := by decide +kernel
theorem dSt_change_0 : decode bSt_change 0 = .ok (.iload_n 1, 1) := by decide +kernel
theorem dSt_change_1 : decode bSt_change 1 = .ok (.lookupswitch 72 #[(0, 35), (3, 47), (5, 59)], 35) := by decide +kernel
theorem dSt_change_36 : decode bSt_change 36 = .ok (.aload_n 0, 1) := by decide +kernel
theorem dSt_change_37 : decode bSt_change 37 = .ok (.aload_n 0, 1) := by decide +kernel
theorem dSt_change_38 : decode bSt_change 38 = .ok (.aload_n 2, 1) := by decide +kernel
theorem dSt_change_39 : decode bSt_change 39 = .ok (.invokevirtual 19, 3) := by decide +kernel
theorem dSt_change_42 : decode bSt_change 42 = .ok (.putfield 23, 3) := by decide +kernel
theorem dSt_change_45 : decode bSt_change 45 = .ok (.goto 39, 3) := by decide +kernel
theorem dSt_change_48 : decode bSt_change 48 = .ok (.aload_n 0, 1) := by decide +kernel
theorem dSt_change_49 : decode bSt_change 49 = .ok (.aload_n 0, 1) := by decide +kernel
theorem dSt_change_50 : decode bSt_change 50 = .ok (.aload_n 2, 1) := by decide +kernel
theorem dSt_change_51 : decode bSt_change 51 = .ok (.invokevirtual 26, 3) := by decide +kernel
theorem dSt_change_54 : decode bSt_change 54 = .ok (.putfield 23, 3) := by decide +kernel
theorem dSt_change_57 : decode bSt_change 57 = .ok (.goto 27, 3) := by decide +kernel
theorem dSt_change_60 : decode bSt_change 60 = .ok (.aload_n 0, 1) := by decide +kernel
theorem dSt_change_61 : decode bSt_change 61 = .ok (.aload_n 0, 1) := by decide +kernel
theorem dSt_change_62 : decode bSt_change 62 = .ok (.aload_n 2, 1) := by decide +kernel
theorem dSt_change_63 : decode bSt_change 63 = .ok (.aload_n 3, 1) := by decide +kernel
theorem dSt_change_64 : decode bSt_change 64 = .ok (.invokevirtual 29, 3) := by decide +kernel
theorem dSt_change_67 : decode bSt_change 67 = .ok (.putfield 23, 3) := by decide +kernel
theorem dSt_change_70 : decode bSt_change 70 = .ok (.goto 14, 3) := by decide +kernel
theorem dSt_change_73 : decode bSt_change 73 = .ok (.aload_n 0, 1) := by decide +kernel
theorem dSt_change_74 : decode bSt_change 74 = .ok (.aload_n 0, 1) := by decide +kernel
theorem dSt_change_75 : decode bSt_change 75 = .ok (.iload_n 1, 1) := by decide +kernel
theorem dSt_change_76 : decode bSt_change 76 = .ok (.aload_n 2, 1) := by decide +kernel
theorem dSt_change_77 : decode bSt_change 77 = .ok (.aload_n 3, 1) := by decide +kernel
theorem dSt_change_78 : decode bSt_change 78 = .ok (.invokevirtual 33, 3) := by decide +kernel
theorem dSt_change_81 : decode bSt_change 81 = .ok (.putfield 23, 3) := by decide +kernel
theorem dSt_change_84 : decode bSt_change 84 = .ok (.return_, 1) := by decide +kernel
theorem dSt_changeRegister_0 : decode bSt_changeRegister 0 = .ok (.aload_n 0, 1) := by decide +kernel
theorem dSt_changeRegister_1 : decode bSt_changeRegister 1 = .ok (.getfield 9, 3) := by decide +kernel
theorem dSt_changeRegister_4 : decode bSt_changeRegister 4 = .ok (.l2i, 1) := by decide +kernel
theorem dSt_changeRegister_5 : decode bSt_changeRegister 5 = .ok (.istore_n 2, 1) := by decide +kernel
theorem dSt_changeRegister_6 : decode bSt_changeRegister 6 = .ok (.aload_n 1, 1) := by decide +kernel
theorem dSt_changeRegister_7 : decode bSt_changeRegister 7 = .ok (.getfield 37, 3) := by decide +kernel
theorem dSt_changeRegister_10 : decode bSt_changeRegister 10 = .ok (.tableswitch 75 0 3 #[30, 32, 43, 54], 30) := by decide +kernel
theorem dSt_changeRegister_40 : decode bSt_changeRegister 40 = .ok (.iload_n 2, 1) := by decide +kernel
theorem dSt_changeRegister_41 : decode bSt_changeRegister 41 = .ok (.ireturn, 1) := by decide +kernel
theorem dSt_changeRegister_42 : decode bSt_changeRegister 42 = .ok (.aload_n 0, 1) := by decide +kernel
theorem dSt_changeRegister_43 : decode bSt_changeRegister 43 = .ok (.aload_n 1, 1) := by decide +kernel
theorem dSt_changeRegister_44 : decode bSt_changeRegister 44 = .ok (.getfield 42, 3) := by decide +kernel
theorem dSt_changeRegister_47 : decode bSt_changeRegister 47 = .ok (.i2l, 1) := by decide +kernel
theorem dSt_changeRegister_48 : decode bSt_changeRegister 48 = .ok (.putfield 9, 3) := by decide +kernel
theorem dSt_changeRegister_51 : decode bSt_changeRegister 51 = .ok (.iconst 0, 1) := by decide +kernel
theorem dSt_changeRegister_52 : decode bSt_changeRegister 52 = .ok (.ireturn, 1) := by decide +kernel
theorem dSt_changeRegister_53 : decode bSt_changeRegister 53 = .ok (.aload_n 0, 1) := by decide +kernel
theorem dSt_changeRegister_54 : decode bSt_changeRegister 54 = .ok (.aload_n 1, 1) := by decide +kernel
theorem dSt_changeRegister_55 : decode bSt_changeRegister 55 = .ok (.getfield 42, 3) := by decide +kernel
theorem dSt_changeRegister_58 : decode bSt_changeRegister 58 = .ok (.i2l, 1) := by decide +kernel
theorem dSt_changeRegister_59 : decode bSt_changeRegister 59 = .ok (.putfield 9, 3) := by decide +kernel
theorem dSt_changeRegister_62 : decode bSt_changeRegister 62 = .ok (.iload_n 2, 1) := by decide +kernel
theorem dSt_changeRegister_63 : decode bSt_changeRegister 63 = .ok (.ireturn, 1) := by decide +kernel
theorem dSt_changeRegister_64 : decode bSt_changeRegister 64 = .ok (.iload_n 2, 1) := by decide +kernel
theorem dSt_changeRegister_65 : decode bSt_changeRegister 65 = .ok (.aload_n 1, 1) := by decide +kernel
theorem dSt_changeRegister_66 : decode bSt_changeRegister 66 = .ok (.getfield 42, 3) := by decide +kernel
theorem dSt_changeRegister_69 : decode bSt_changeRegister 69 = .ok (.if_icmp .eq 5, 3) := by decide +kernel
theorem dSt_changeRegister_72 : decode bSt_changeRegister 72 = .ok (.iconst 0, 1) := by decide +kernel
theorem dSt_changeRegister_73 : decode bSt_changeRegister 73 = .ok (.ireturn, 1) := by decide +kernel
theorem dSt_changeRegister_74 : decode bSt_changeRegister 74 = .ok (.aload_n 0, 1) := by decide +kernel
theorem dSt_changeRegister_75 : decode bSt_changeRegister 75 = .ok (.aload_n 1, 1) := by decide +kernel
theorem dSt_changeRegister_76 : decode bSt_changeRegister 76 = .ok (.getfield 45, 3) := by decide +kernel
theorem dSt_changeRegister_79 : decode bSt_changeRegister 79 = .ok (.i2l, 1) := by decide +kernel
theorem dSt_changeRegister_80 : decode bSt_changeRegister 80 = .ok (.putfield 9, 3) := by decide +kernel
theorem dSt_changeRegister_83 : decode bSt_changeRegister 83 = .ok (.iconst 1, 1) := by decide +kernel
theorem dSt_changeRegister_84 : decode bSt_changeRegister 84 = .ok (.ireturn, 1) := by decide +kernel
theorem dSt_changeRegister_85 : decode bSt_changeRegister 85 = .ok (.aload_n 0, 1) := by decide +kernel
theorem dSt_changeRegister_86 : decode bSt_changeRegister 86 = .ok (.iload_n 2, 1) := by decide +kernel
theorem dSt_changeRegister_87 : decode bSt_changeRegister 87 = .ok (.aload_n 1, 1) := by decide +kernel
theorem dSt_changeRegister_88 : decode bSt_changeRegister 88 = .ok (.getfield 42, 3) := by decide +kernel
theorem dSt_changeRegister_91 : decode bSt_changeRegister 91 = .ok (.iadd, 1) := by decide +kernel
theorem dSt_changeRegister_92 : decode bSt_changeRegister 92 = .ok (.i2l, 1) := by decide +kernel
theorem dSt_changeRegister_93 : decode bSt_changeRegister 93 = .ok (.putfield 9, 3) := by decide +kernel
theorem dSt_changeRegister_96 : decode bSt_changeRegister 96 = .ok (.iload_n 2, 1) := by decide +kernel
theorem dSt_changeRegister_97 : decode bSt_changeRegister 97 = .ok (.ireturn, 1) := by decide +kernel
theorem dSt_changeSet_0 : decode bSt_changeSet 0 = .ok (.lconst 1, 1) := by decide +kernel
theorem dSt_changeSet_1 : decode bSt_changeSet 1 = .ok (.aload_n 1, 1) := by decide +kernel
theorem dSt_changeSet_2 : decode bSt_changeSet 2 = .ok (.getfield 52, 3) := by decide +kernel
theorem dSt_changeSet_5 : decode bSt_changeSet 5 = .ok (.lshl, 1) := by decide +kernel
theorem dSt_changeSet_6 : decode bSt_changeSet 6 = .ok (.lstore_n 2, 1) := by decide +kernel
theorem dSt_changeSet_7 : decode bSt_changeSet 7 = .ok (.aload_n 0, 1) := by decide +kernel
theorem dSt_changeSet_8 : decode bSt_changeSet 8 = .ok (.getfield 9, 3) := by decide +kernel
theorem dSt_changeSet_11 : decode bSt_changeSet 11 = .ok (.lload_n 2, 1) := by decide +kernel
theorem dSt_changeSet_12 : decode bSt_changeSet 12 = .ok (.land, 1) := by decide +kernel
theorem dSt_changeSet_13 : decode bSt_changeSet 13 = .ok (.lconst 0, 1) := by decide +kernel
theorem dSt_changeSet_14 : decode bSt_changeSet 14 = .ok (.lcmp, 1) := by decide +kernel
theorem dSt_changeSet_15 : decode bSt_changeSet 15 = .ok (.ifCond .eq 7, 3) := by decide +kernel
theorem dSt_changeSet_18 : decode bSt_changeSet 18 = .ok (.iconst 1, 1) := by decide +kernel
theorem dSt_changeSet_19 : decode bSt_changeSet 19 = .ok (.goto 4, 3) := by decide +kernel
theorem dSt_changeSet_22 : decode bSt_changeSet 22 = .ok (.iconst 0, 1) := by decide +kernel
theorem dSt_changeSet_23 : decode bSt_changeSet 23 = .ok (.istore 4, 2) := by decide +kernel
theorem dSt_changeSet_25 : decode bSt_changeSet 25 = .ok (.aload_n 1, 1) := by decide +kernel
theorem dSt_changeSet_26 : decode bSt_changeSet 26 = .ok (.getfield 37, 3) := by decide +kernel
theorem dSt_changeSet_29 : decode bSt_changeSet 29 = .ok (.lookupswitch 73 #[(0, 27), (1, 48)], 27) := by decide +kernel
theorem dSt_changeSet_56 : decode bSt_changeSet 56 = .ok (.aload_n 0, 1) := by decide +kernel
theorem dSt_changeSet_57 : decode bSt_changeSet 57 = .ok (.dup, 1) := by decide +kernel
theorem dSt_changeSet_58 : decode bSt_changeSet 58 = .ok (.getfield 9, 3) := by decide +kernel
theorem dSt_changeSet_61 : decode bSt_changeSet 61 = .ok (.lload_n 2, 1) := by decide +kernel
theorem dSt_changeSet_62 : decode bSt_changeSet 62 = .ok (.lor, 1) := by decide +kernel
theorem dSt_changeSet_63 : decode bSt_changeSet 63 = .ok (.putfield 9, 3) := by decide +kernel
theorem dSt_changeSet_66 : decode bSt_changeSet 66 = .ok (.iload 4, 2) := by decide +kernel
theorem dSt_changeSet_68 : decode bSt_changeSet 68 = .ok (.ifCond .eq 7, 3) := by decide +kernel
theorem dSt_changeSet_71 : decode bSt_changeSet 71 = .ok (.iconst 0, 1) := by decide +kernel
theorem dSt_changeSet_72 : decode bSt_changeSet 72 = .ok (.goto 4, 3) := by decide +kernel
theorem dSt_changeSet_75 : decode bSt_changeSet 75 = .ok (.iconst 1, 1) := by decide +kernel
theorem dSt_changeSet_76 : decode bSt_changeSet 76 = .ok (.ireturn, 1) := by decide +kernel
theorem dSt_changeSet_77 : decode bSt_changeSet 77 = .ok (.aload_n 0, 1) := by decide +kernel
theorem dSt_changeSet_78 : decode bSt_changeSet 78 = .ok (.dup, 1) := by decide +kernel
theorem dSt_changeSet_79 : decode bSt_changeSet 79 = .ok (.getfield 9, 3) := by decide +kernel
theorem dSt_changeSet_82 : decode bSt_changeSet 82 = .ok (.lload_n 2, 1) := by decide +kernel
theorem dSt_changeSet_83 : decode bSt_changeSet 83 = .ok (.ldc2_w 64, 3) := by decide +kernel
theorem dSt_changeSet_86 : decode bSt_changeSet 86 = .ok (.lxor, 1) := by decide +kernel
theorem dSt_changeSet_87 : decode bSt_changeSet 87 = .ok (.land, 1) := by decide +kernel
theorem dSt_changeSet_88 : decode bSt_changeSet 88 = .ok (.putfield 9, 3) := by decide +kernel
theorem dSt_changeSet_91 : decode bSt_changeSet 91 = .ok (.iload 4, 2) := by decide +kernel
theorem dSt_changeSet_93 : decode bSt_changeSet 93 = .ok (.ifCond .eq 7, 3) := by decide +kernel
theorem dSt_changeSet_96 : decode bSt_changeSet 96 = .ok (.iconst 1, 1) := by decide +kernel
theorem dSt_changeSet_97 : decode bSt_changeSet 97 = .ok (.goto 4, 3) := by decide +kernel
theorem dSt_changeSet_100 : decode bSt_changeSet 100 = .ok (.iconst 0, 1) := by decide +kernel
theorem dSt_changeSet_101 : decode bSt_changeSet 101 = .ok (.ireturn, 1) := by decide +kernel
theorem dSt_changeSet_102 : decode bSt_changeSet 102 = .ok (.iload 4, 2) := by decide +kernel
theorem dSt_changeSet_104 : decode bSt_changeSet 104 = .ok (.ifCond .eq 7, 3) := by decide +kernel
theorem dSt_changeSet_107 : decode bSt_changeSet 107 = .ok (.iconst 1, 1) := by decide +kernel
theorem dSt_changeSet_108 : decode bSt_changeSet 108 = .ok (.goto 4, 3) := by decide +kernel
theorem dSt_changeSet_111 : decode bSt_changeSet 111 = .ok (.iconst 0, 1) := by decide +kernel
theorem dSt_changeSet_112 : decode bSt_changeSet 112 = .ok (.ireturn, 1) := by decide +kernel
theorem dSt_changeMap_0 : decode bSt_changeMap 0 = .ok (.iconst 5, 1) := by decide +kernel
theorem dSt_changeMap_1 : decode bSt_changeMap 1 = .ok (.aload_n 1, 1) := by decide +kernel
theorem dSt_changeMap_2 : decode bSt_changeMap 2 = .ok (.getfield 42, 3) := by decide +kernel
theorem dSt_changeMap_5 : decode bSt_changeMap 5 = .ok (.bipush 7, 2) := by decide +kernel
theorem dSt_changeMap_7 : decode bSt_changeMap 7 = .ok (.iand, 1) := by decide +kernel
theorem dSt_changeMap_8 : decode bSt_changeMap 8 = .ok (.imul, 1) := by decide +kernel
theorem dSt_changeMap_9 : decode bSt_changeMap 9 = .ok (.istore_n 3, 1) := by decide +kernel
theorem dSt_changeMap_10 : decode bSt_changeMap 10 = .ok (.aload_n 0, 1) := by decide +kernel
theorem dSt_changeMap_11 : decode bSt_changeMap 11 = .ok (.getfield 9, 3) := by decide +kernel
theorem dSt_changeMap_14 : decode bSt_changeMap 14 = .ok (.iload_n 3, 1) := by decide +kernel
theorem dSt_changeMap_15 : decode bSt_changeMap 15 = .ok (.lushr, 1) := by decide +kernel
theorem dSt_changeMap_16 : decode bSt_changeMap 16 = .ok (.l2i, 1) := by decide +kernel
theorem dSt_changeMap_17 : decode bSt_changeMap 17 = .ok (.bipush 31, 2) := by decide +kernel
theorem dSt_changeMap_19 : decode bSt_changeMap 19 = .ok (.iand, 1) := by decide +kernel
theorem dSt_changeMap_20 : decode bSt_changeMap 20 = .ok (.istore 4, 2) := by decide +kernel
theorem dSt_changeMap_22 : decode bSt_changeMap 22 = .ok (.aload_n 1, 1) := by decide +kernel
theorem dSt_changeMap_23 : decode bSt_changeMap 23 = .ok (.getfield 37, 3) := by decide +kernel
theorem dSt_changeMap_26 : decode bSt_changeMap 26 = .ok (.iconst 1, 1) := by decide +kernel
theorem dSt_changeMap_27 : decode bSt_changeMap 27 = .ok (.if_icmp .eq 21, 3) := by decide +kernel
theorem dSt_changeMap_30 : decode bSt_changeMap 30 = .ok (.aload_n 0, 1) := by decide +kernel
theorem dSt_changeMap_31 : decode bSt_changeMap 31 = .ok (.dup, 1) := by decide +kernel
theorem dSt_changeMap_32 : decode bSt_changeMap 32 = .ok (.getfield 9, 3) := by decide +kernel
theorem dSt_changeMap_35 : decode bSt_changeMap 35 = .ok (.ldc2_w 66, 3) := by decide +kernel
theorem dSt_changeMap_38 : decode bSt_changeMap 38 = .ok (.iload_n 3, 1) := by decide +kernel
theorem dSt_changeMap_39 : decode bSt_changeMap 39 = .ok (.lshl, 1) := by decide +kernel
theorem dSt_changeMap_40 : decode bSt_changeMap 40 = .ok (.ldc2_w 64, 3) := by decide +kernel
theorem dSt_changeMap_43 : decode bSt_changeMap 43 = .ok (.lxor, 1) := by decide +kernel
theorem dSt_changeMap_44 : decode bSt_changeMap 44 = .ok (.land, 1) := by decide +kernel
theorem dSt_changeMap_45 : decode bSt_changeMap 45 = .ok (.putfield 9, 3) := by decide +kernel
theorem dSt_changeMap_48 : decode bSt_changeMap 48 = .ok (.aload_n 1, 1) := by decide +kernel
theorem dSt_changeMap_49 : decode bSt_changeMap 49 = .ok (.getfield 37, 3) := by decide +kernel
theorem dSt_changeMap_52 : decode bSt_changeMap 52 = .ok (.ifCond .ne 31, 3) := by decide +kernel
theorem dSt_changeMap_55 : decode bSt_changeMap 55 = .ok (.aload_n 1, 1) := by decide +kernel
theorem dSt_changeMap_56 : decode bSt_changeMap 56 = .ok (.getfield 45, 3) := by decide +kernel
theorem dSt_changeMap_59 : decode bSt_changeMap 59 = .ok (.ldc 59, 2) := by decide +kernel
theorem dSt_changeMap_61 : decode bSt_changeMap 61 = .ok (.if_icmp .eq 22, 3) := by decide +kernel
theorem dSt_changeMap_64 : decode bSt_changeMap 64 = .ok (.aload_n 0, 1) := by decide +kernel
theorem dSt_changeMap_65 : decode bSt_changeMap 65 = .ok (.dup, 1) := by decide +kernel
theorem dSt_changeMap_66 : decode bSt_changeMap 66 = .ok (.getfield 9, 3) := by decide +kernel
theorem dSt_changeMap_69 : decode bSt_changeMap 69 = .ok (.bipush 16, 2) := by decide +kernel
theorem dSt_changeMap_71 : decode bSt_changeMap 71 = .ok (.aload_n 1, 1) := by decide +kernel
theorem dSt_changeMap_72 : decode bSt_changeMap 72 = .ok (.getfield 52, 3) := by decide +kernel
theorem dSt_changeMap_75 : decode bSt_changeMap 75 = .ok (.ior, 1) := by decide +kernel
theorem dSt_changeMap_76 : decode bSt_changeMap 76 = .ok (.i2l, 1) := by decide +kernel
theorem dSt_changeMap_77 : decode bSt_changeMap 77 = .ok (.iload_n 3, 1) := by decide +kernel
theorem dSt_changeMap_78 : decode bSt_changeMap 78 = .ok (.lshl, 1) := by decide +kernel
theorem dSt_changeMap_79 : decode bSt_changeMap 79 = .ok (.lor, 1) := by decide +kernel
theorem dSt_changeMap_80 : decode bSt_changeMap 80 = .ok (.putfield 9, 3) := by decide +kernel
theorem dSt_changeMap_83 : decode bSt_changeMap 83 = .ok (.iload 4, 2) := by decide +kernel
theorem dSt_changeMap_85 : decode bSt_changeMap 85 = .ok (.bipush 16, 2) := by decide +kernel
theorem dSt_changeMap_87 : decode bSt_changeMap 87 = .ok (.iand, 1) := by decide +kernel
theorem dSt_changeMap_88 : decode bSt_changeMap 88 = .ok (.ifCond .ne 8, 3) := by decide +kernel
theorem dSt_changeMap_91 : decode bSt_changeMap 91 = .ok (.ldc 59, 2) := by decide +kernel
theorem dSt_changeMap_93 : decode bSt_changeMap 93 = .ok (.goto 13, 3) := by decide +kernel
theorem dSt_changeMap_96 : decode bSt_changeMap 96 = .ok (.aload_n 2, 1) := by decide +kernel
theorem dSt_changeMap_97 : decode bSt_changeMap 97 = .ok (.iload 4, 2) := by decide +kernel
theorem dSt_changeMap_99 : decode bSt_changeMap 99 = .ok (.bipush 15, 2) := by decide +kernel
theorem dSt_changeMap_101 : decode bSt_changeMap 101 = .ok (.iand, 1) := by decide +kernel
theorem dSt_changeMap_102 : decode bSt_changeMap 102 = .ok (.aaload, 1) := by decide +kernel
theorem dSt_changeMap_103 : decode bSt_changeMap 103 = .ok (.getfield 45, 3) := by decide +kernel
theorem dSt_changeMap_106 : decode bSt_changeMap 106 = .ok (.ireturn, 1) := by decide +kernel
theorem dSt_changeSequence_0 : decode bSt_changeSequence 0 = .ok (.aload_n 2, 1) := by decide +kernel
theorem dSt_changeSequence_1 : decode bSt_changeSequence 1 = .ok (.getfield 37, 3) := by decide +kernel
theorem dSt_changeSequence_4 : decode bSt_changeSequence 4 = .ok (.lookupswitch 94 #[(0, 28), (1, 59)], 28) := by decide +kernel
theorem dSt_changeSequence_32 : decode bSt_changeSequence 32 = .ok (.aload_n 0, 1) := by decide +kernel
theorem dSt_changeSequence_33 : decode bSt_changeSequence 33 = .ok (.iload_n 1, 1) := by decide +kernel
theorem dSt_changeSequence_34 : decode bSt_changeSequence 34 = .ok (.iconst 4, 1) := by decide +kernel
theorem dSt_changeSequence_35 : decode bSt_changeSequence 35 = .ok (.if_icmp .ne 15, 3) := by decide +kernel
theorem dSt_changeSequence_38 : decode bSt_changeSequence 38 = .ok (.aload_n 0, 1) := by decide +kernel
theorem dSt_changeSequence_39 : decode bSt_changeSequence 39 = .ok (.aload_n 2, 1) := by decide +kernel
theorem dSt_changeSequence_40 : decode bSt_changeSequence 40 = .ok (.getfield 42, 3) := by decide +kernel
theorem dSt_changeSequence_43 : decode bSt_changeSequence 43 = .ok (.aload_n 3, 1) := by decide +kernel
theorem dSt_changeSequence_44 : decode bSt_changeSequence 44 = .ok (.invokevirtual 48, 3) := by decide +kernel
theorem dSt_changeSequence_47 : decode bSt_changeSequence 47 = .ok (.goto 7, 3) := by decide +kernel
theorem dSt_changeSequence_50 : decode bSt_changeSequence 50 = .ok (.aload_n 0, 1) := by decide +kernel
theorem dSt_changeSequence_51 : decode bSt_changeSequence 51 = .ok (.getfield 15, 3) := by decide +kernel
theorem dSt_changeSequence_54 : decode bSt_changeSequence 54 = .ok (.aload_n 2, 1) := by decide +kernel
theorem dSt_changeSequence_55 : decode bSt_changeSequence 55 = .ok (.getfield 52, 3) := by decide +kernel
theorem dSt_changeSequence_58 : decode bSt_changeSequence 58 = .ok (.invokevirtual 55, 3) := by decide +kernel
theorem dSt_changeSequence_61 : decode bSt_changeSequence 61 = .ok (.iconst 0, 1) := by decide +kernel
theorem dSt_changeSequence_62 : decode bSt_changeSequence 62 = .ok (.ireturn, 1) := by decide +kernel
theorem dSt_changeSequence_63 : decode bSt_changeSequence 63 = .ok (.aload_n 0, 1) := by decide +kernel
theorem dSt_changeSequence_64 : decode bSt_changeSequence 64 = .ok (.getfield 15, 3) := by decide +kernel
theorem dSt_changeSequence_67 : decode bSt_changeSequence 67 = .ok (.ifCond .gt 6, 3) := by decide +kernel
theorem dSt_changeSequence_70 : decode bSt_changeSequence 70 = .ok (.ldc 59, 2) := by decide +kernel
theorem dSt_changeSequence_72 : decode bSt_changeSequence 72 = .ok (.ireturn, 1) := by decide +kernel
theorem dSt_changeSequence_73 : decode bSt_changeSequence 73 = .ok (.aload_n 3, 1) := by decide +kernel
theorem dSt_changeSequence_74 : decode bSt_changeSequence 74 = .ok (.aload_n 0, 1) := by decide +kernel
theorem dSt_changeSequence_75 : decode bSt_changeSequence 75 = .ok (.iload_n 1, 1) := by decide +kernel
theorem dSt_changeSequence_76 : decode bSt_changeSequence 76 = .ok (.iconst 2, 1) := by decide +kernel
theorem dSt_changeSequence_77 : decode bSt_changeSequence 77 = .ok (.if_icmp .ne 12, 3) := by decide +kernel
theorem dSt_changeSequence_80 : decode bSt_changeSequence 80 = .ok (.aload_n 0, 1) := by decide +kernel
theorem dSt_changeSequence_81 : decode bSt_changeSequence 81 = .ok (.getfield 15, 3) := by decide +kernel
theorem dSt_changeSequence_84 : decode bSt_changeSequence 84 = .ok (.iconst 1, 1) := by decide +kernel
theorem dSt_changeSequence_85 : decode bSt_changeSequence 85 = .ok (.isub, 1) := by decide +kernel
theorem dSt_changeSequence_86 : decode bSt_changeSequence 86 = .ok (.goto 4, 3) := by decide +kernel
theorem dSt_changeSequence_89 : decode bSt_changeSequence 89 = .ok (.iconst 0, 1) := by decide +kernel
theorem dSt_changeSequence_90 : decode bSt_changeSequence 90 = .ok (.invokevirtual 60, 3) := by decide +kernel
theorem dSt_changeSequence_93 : decode bSt_changeSequence 93 = .ok (.aaload, 1) := by decide +kernel
theorem dSt_changeSequence_94 : decode bSt_changeSequence 94 = .ok (.getfield 42, 3) := by decide +kernel
theorem dSt_changeSequence_97 : decode bSt_changeSequence 97 = .ok (.ireturn, 1) := by decide +kernel
theorem dSt_changeSequence_98 : decode bSt_changeSequence 98 = .ok (.aload_n 0, 1) := by decide +kernel
theorem dSt_changeSequence_99 : decode bSt_changeSequence 99 = .ok (.getfield 15, 3) := by decide +kernel
theorem dSt_changeSequence_102 : decode bSt_changeSequence 102 = .ok (.ireturn, 1) := by decide +kernel
theorem dSt_placeInHeap_0 : decode bSt_placeInHeap 0 = .ok (.iconst 0, 1) := by decide +kernel
theorem dSt_placeInHeap_1 : decode bSt_placeInHeap 1 = .ok (.istore_n 3, 1) := by decide +kernel
theorem dSt_placeInHeap_2 : decode bSt_placeInHeap 2 = .ok (.aload_n 0, 1) := by decide +kernel
theorem dSt_placeInHeap_3 : decode bSt_placeInHeap 3 = .ok (.getfield 9, 3) := by decide +kernel
theorem dSt_placeInHeap_6 : decode bSt_placeInHeap 6 = .ok (.lstore 4, 2) := by decide +kernel
theorem dSt_placeInHeap_8 : decode bSt_placeInHeap 8 = .ok (.iload_n 3, 1) := by decide +kernel
theorem dSt_placeInHeap_9 : decode bSt_placeInHeap 9 = .ok (.aload_n 0, 1) := by decide +kernel
theorem dSt_placeInHeap_10 : decode bSt_placeInHeap 10 = .ok (.getfield 15, 3) := by decide +kernel
theorem dSt_placeInHeap_13 : decode bSt_placeInHeap 13 = .ok (.if_icmp .ge 30, 3) := by decide +kernel
theorem dSt_placeInHeap_16 : decode bSt_placeInHeap 16 = .ok (.aload_n 2, 1) := by decide +kernel
theorem dSt_placeInHeap_17 : decode bSt_placeInHeap 17 = .ok (.lload 4, 2) := by decide +kernel
theorem dSt_placeInHeap_19 : decode bSt_placeInHeap 19 = .ok (.l2i, 1) := by decide +kernel
theorem dSt_placeInHeap_20 : decode bSt_placeInHeap 20 = .ok (.bipush 15, 2) := by decide +kernel
theorem dSt_placeInHeap_22 : decode bSt_placeInHeap 22 = .ok (.iand, 1) := by decide +kernel
theorem dSt_placeInHeap_23 : decode bSt_placeInHeap 23 = .ok (.aaload, 1) := by decide +kernel
theorem dSt_placeInHeap_24 : decode bSt_placeInHeap 24 = .ok (.getfield 42, 3) := by decide +kernel
theorem dSt_placeInHeap_27 : decode bSt_placeInHeap 27 = .ok (.iload_n 1, 1) := by decide +kernel
theorem dSt_placeInHeap_28 : decode bSt_placeInHeap 28 = .ok (.if_icmp .ge 15, 3) := by decide +kernel
theorem dSt_placeInHeap_31 : decode bSt_placeInHeap 31 = .ok (.lload 4, 2) := by decide +kernel
theorem dSt_placeInHeap_33 : decode bSt_placeInHeap 33 = .ok (.iconst 4, 1) := by decide +kernel
theorem dSt_placeInHeap_34 : decode bSt_placeInHeap 34 = .ok (.lushr, 1) := by decide +kernel
theorem dSt_placeInHeap_35 : decode bSt_placeInHeap 35 = .ok (.lstore 4, 2) := by decide +kernel
theorem dSt_placeInHeap_37 : decode bSt_placeInHeap 37 = .ok (.iinc 3 1, 3) := by decide +kernel
theorem dSt_placeInHeap_40 : decode bSt_placeInHeap 40 = .ok (.goto (-32), 3) := by decide +kernel
theorem dSt_placeInHeap_43 : decode bSt_placeInHeap 43 = .ok (.iload_n 3, 1) := by decide +kernel
theorem dSt_placeInHeap_44 : decode bSt_placeInHeap 44 = .ok (.ireturn, 1) := by decide +kernel
theorem dSt_insertAt_0 : decode bSt_insertAt 0 = .ok (.iconst 4, 1) := by decide +kernel
theorem dSt_insertAt_1 : decode bSt_insertAt 1 = .ok (.iload_n 1, 1) := by decide +kernel
theorem dSt_insertAt_2 : decode bSt_insertAt 2 = .ok (.imul, 1) := by decide +kernel
theorem dSt_insertAt_3 : decode bSt_insertAt 3 = .ok (.istore_n 3, 1) := by decide +kernel
theorem dSt_insertAt_4 : decode bSt_insertAt 4 = .ok (.aload_n 0, 1) := by decide +kernel
theorem dSt_insertAt_5 : decode bSt_insertAt 5 = .ok (.getfield 9, 3) := by decide +kernel
theorem dSt_insertAt_8 : decode bSt_insertAt 8 = .ok (.lconst 1, 1) := by decide +kernel
theorem dSt_insertAt_9 : decode bSt_insertAt 9 = .ok (.iload_n 3, 1) := by decide +kernel
theorem dSt_insertAt_10 : decode bSt_insertAt 10 = .ok (.lshl, 1) := by decide +kernel
theorem dSt_insertAt_11 : decode bSt_insertAt 11 = .ok (.lconst 1, 1) := by decide +kernel
theorem dSt_insertAt_12 : decode bSt_insertAt 12 = .ok (.lsub, 1) := by decide +kernel
theorem dSt_insertAt_13 : decode bSt_insertAt 13 = .ok (.land, 1) := by decide +kernel
theorem dSt_insertAt_14 : decode bSt_insertAt 14 = .ok (.lstore 4, 2) := by decide +kernel
theorem dSt_insertAt_16 : decode bSt_insertAt 16 = .ok (.aload_n 0, 1) := by decide +kernel
theorem dSt_insertAt_17 : decode bSt_insertAt 17 = .ok (.getfield 9, 3) := by decide +kernel
theorem dSt_insertAt_20 : decode bSt_insertAt 20 = .ok (.iload_n 3, 1) := by decide +kernel
theorem dSt_insertAt_21 : decode bSt_insertAt 21 = .ok (.lushr, 1) := by decide +kernel
theorem dSt_insertAt_22 : decode bSt_insertAt 22 = .ok (.iload_n 3, 1) := by decide +kernel
theorem dSt_insertAt_23 : decode bSt_insertAt 23 = .ok (.lshl, 1) := by decide +kernel
theorem dSt_insertAt_24 : decode bSt_insertAt 24 = .ok (.iconst 4, 1) := by decide +kernel
theorem dSt_insertAt_25 : decode bSt_insertAt 25 = .ok (.lshl, 1) := by decide +kernel
theorem dSt_insertAt_26 : decode bSt_insertAt 26 = .ok (.lstore 6, 2) := by decide +kernel
theorem dSt_insertAt_28 : decode bSt_insertAt 28 = .ok (.aload_n 0, 1) := by decide +kernel
theorem dSt_insertAt_29 : decode bSt_insertAt 29 = .ok (.lload 4, 2) := by decide +kernel
theorem dSt_insertAt_31 : decode bSt_insertAt 31 = .ok (.iload_n 2, 1) := by decide +kernel
theorem dSt_insertAt_32 : decode bSt_insertAt 32 = .ok (.i2l, 1) := by decide +kernel
theorem dSt_insertAt_33 : decode bSt_insertAt 33 = .ok (.iload_n 3, 1) := by decide +kernel
theorem dSt_insertAt_34 : decode bSt_insertAt 34 = .ok (.lshl, 1) := by decide +kernel
theorem dSt_insertAt_35 : decode bSt_insertAt 35 = .ok (.lor, 1) := by decide +kernel
theorem dSt_insertAt_36 : decode bSt_insertAt 36 = .ok (.lload 6, 2) := by decide +kernel
theorem dSt_insertAt_38 : decode bSt_insertAt 38 = .ok (.lor, 1) := by decide +kernel
theorem dSt_insertAt_39 : decode bSt_insertAt 39 = .ok (.putfield 9, 3) := by decide +kernel
theorem dSt_insertAt_42 : decode bSt_insertAt 42 = .ok (.aload_n 0, 1) := by decide +kernel
theorem dSt_insertAt_43 : decode bSt_insertAt 43 = .ok (.dup, 1) := by decide +kernel
theorem dSt_insertAt_44 : decode bSt_insertAt 44 = .ok (.getfield 15, 3) := by decide +kernel
theorem dSt_insertAt_47 : decode bSt_insertAt 47 = .ok (.iconst 1, 1) := by decide +kernel
theorem dSt_insertAt_48 : decode bSt_insertAt 48 = .ok (.iadd, 1) := by decide +kernel
theorem dSt_insertAt_49 : decode bSt_insertAt 49 = .ok (.putfield 15, 3) := by decide +kernel
theorem dSt_insertAt_52 : decode bSt_insertAt 52 = .ok (.return_, 1) := by decide +kernel
end
section
theorem dSt_removeAt_0 : decode bSt_removeAt 0 = .ok (.iconst 4, 1) := by decide +kernel
theorem dSt_removeAt_1 : decode bSt_removeAt 1 = .ok (.iload_n 1, 1) := by decide +kernel
theorem dSt_removeAt_2 : decode bSt_removeAt 2 = .ok (.imul, 1) := by decide +kernel
theorem dSt_removeAt_3 : decode bSt_removeAt 3 = .ok (.istore_n 2, 1) := by decide +kernel
theorem dSt_removeAt_4 : decode bSt_removeAt 4 = .ok (.aload_n 0, 1) := by decide +kernel
theorem dSt_removeAt_5 : decode bSt_removeAt 5 = .ok (.getfield 9, 3) := by decide +kernel
theorem dSt_removeAt_8 : decode bSt_removeAt 8 = .ok (.iload_n 2, 1) := by decide +kernel
theorem dSt_removeAt_9 : decode bSt_removeAt 9 = .ok (.lushr, 1) := by decide +kernel
theorem dSt_removeAt_10 : decode bSt_removeAt 10 = .ok (.l2i, 1) := by decide +kernel
theorem dSt_removeAt_11 : decode bSt_removeAt 11 = .ok (.bipush 15, 2) := by decide +kernel
theorem dSt_removeAt_13 : decode bSt_removeAt 13 = .ok (.iand, 1) := by decide +kernel
theorem dSt_removeAt_14 : decode bSt_removeAt 14 = .ok (.istore_n 3, 1) := by decide +kernel
theorem dSt_removeAt_15 : decode bSt_removeAt 15 = .ok (.aload_n 0, 1) := by decide +kernel
theorem dSt_removeAt_16 : decode bSt_removeAt 16 = .ok (.getfield 9, 3) := by decide +kernel
theorem dSt_removeAt_19 : decode bSt_removeAt 19 = .ok (.lconst 1, 1) := by decide +kernel
theorem dSt_removeAt_20 : decode bSt_removeAt 20 = .ok (.iload_n 2, 1) := by decide +kernel
theorem dSt_removeAt_21 : decode bSt_removeAt 21 = .ok (.lshl, 1) := by decide +kernel
theorem dSt_removeAt_22 : decode bSt_removeAt 22 = .ok (.lconst 1, 1) := by decide +kernel
theorem dSt_removeAt_23 : decode bSt_removeAt 23 = .ok (.lsub, 1) := by decide +kernel
theorem dSt_removeAt_24 : decode bSt_removeAt 24 = .ok (.land, 1) := by decide +kernel
theorem dSt_removeAt_25 : decode bSt_removeAt 25 = .ok (.lstore 4, 2) := by decide +kernel
theorem dSt_removeAt_27 : decode bSt_removeAt 27 = .ok (.aload_n 0, 1) := by decide +kernel
theorem dSt_removeAt_28 : decode bSt_removeAt 28 = .ok (.getfield 9, 3) := by decide +kernel
theorem dSt_removeAt_31 : decode bSt_removeAt 31 = .ok (.iload_n 2, 1) := by decide +kernel
theorem dSt_removeAt_32 : decode bSt_removeAt 32 = .ok (.lushr, 1) := by decide +kernel
theorem dSt_removeAt_33 : decode bSt_removeAt 33 = .ok (.iconst 4, 1) := by decide +kernel
theorem dSt_removeAt_34 : decode bSt_removeAt 34 = .ok (.lushr, 1) := by decide +kernel
theorem dSt_removeAt_35 : decode bSt_removeAt 35 = .ok (.iload_n 2, 1) := by decide +kernel
theorem dSt_removeAt_36 : decode bSt_removeAt 36 = .ok (.lshl, 1) := by decide +kernel
theorem dSt_removeAt_37 : decode bSt_removeAt 37 = .ok (.lstore 6, 2) := by decide +kernel
theorem dSt_removeAt_39 : decode bSt_removeAt 39 = .ok (.aload_n 0, 1) := by decide +kernel
theorem dSt_removeAt_40 : decode bSt_removeAt 40 = .ok (.lload 4, 2) := by decide +kernel
theorem dSt_removeAt_42 : decode bSt_removeAt 42 = .ok (.lload 6, 2) := by decide +kernel
theorem dSt_removeAt_44 : decode bSt_removeAt 44 = .ok (.lor, 1) := by decide +kernel
theorem dSt_removeAt_45 : decode bSt_removeAt 45 = .ok (.putfield 9, 3) := by decide +kernel
theorem dSt_removeAt_48 : decode bSt_removeAt 48 = .ok (.aload_n 0, 1) := by decide +kernel
theorem dSt_removeAt_49 : decode bSt_removeAt 49 = .ok (.dup, 1) := by decide +kernel
theorem dSt_removeAt_50 : decode bSt_removeAt 50 = .ok (.getfield 15, 3) := by decide +kernel
theorem dSt_removeAt_53 : decode bSt_removeAt 53 = .ok (.iconst 1, 1) := by decide +kernel
theorem dSt_removeAt_54 : decode bSt_removeAt 54 = .ok (.isub, 1) := by decide +kernel
theorem dSt_removeAt_55 : decode bSt_removeAt 55 = .ok (.putfield 15, 3) := by decide +kernel
theorem dSt_removeAt_58 : decode bSt_removeAt 58 = .ok (.iload_n 3, 1) := by decide +kernel
theorem dSt_removeAt_59 : decode bSt_removeAt 59 = .ok (.ireturn, 1) := by decide +kernel
end
section
theorem dSu_learn_0 : decode bSu_learn 0 = .ok (.aload_n 0, 1) := by decide +kernel
theorem dSu_learn_1 : decode bSu_learn 1 = .ok (.getfield 57, 3) := by decide +kernel
theorem dSu_learn_4 : decode bSu_learn 4 = .ok (.ifCond .eq 4, 3) := by decide +kernel
theorem dSu_learn_7 : decode bSu_learn 7 = .ok (.return_, 1) := by decide +kernel
theorem dSu_learn_8 : decode bSu_learn 8 = .ok (.aload_n 0, 1) := by decide +kernel
theorem dSu_learn_9 : decode bSu_learn 9 = .ok (.iconst 1, 1) := by decide +kernel
theorem dSu_learn_10 : decode bSu_learn 10 = .ok (.putfield 57, 3) := by decide +kernel
theorem dSu_learn_13 : decode bSu_learn 13 = .ok (.aload_n 0, 1) := by decide +kernel
theorem dSu_learn_14 : decode bSu_learn 14 = .ok (.getfield 20, 3) := by decide +kernel
theorem dSu_learn_17 : decode bSu_learn 17 = .ok (.aload_n 0, 1) := by decide +kernel
theorem dSu_learn_18 : decode bSu_learn 18 = .ok (.aload_n 0, 1) := by decide +kernel
theorem dSu_learn_19 : decode bSu_learn 19 = .ok (.getfield 39, 3) := by decide +kernel
theorem dSu_learn_22 : decode bSu_learn 22 = .ok (.aload_n 0, 1) := by decide +kernel
theorem dSu_learn_23 : decode bSu_learn 23 = .ok (.getfield 45, 3) := by decide +kernel
theorem dSu_learn_26 : decode bSu_learn 26 = .ok (.iconst 0, 1) := by decide +kernel
theorem dSu_learn_27 : decode bSu_learn 27 = .ok (.invokevirtual 99, 3) := by decide +kernel
theorem dSu_learn_30 : decode bSu_learn 30 = .ok (.ifCond .eq 64, 3) := by decide +kernel
theorem dSu_learn_33 : decode bSu_learn 33 = .ok (.aload_n 0, 1) := by decide +kernel
theorem dSu_learn_34 : decode bSu_learn 34 = .ok (.aload_n 0, 1) := by decide +kernel
theorem dSu_learn_35 : decode bSu_learn 35 = .ok (.getfield 20, 3) := by decide +kernel
theorem dSu_learn_38 : decode bSu_learn 38 = .ok (.getfield 103, 3) := by decide +kernel
theorem dSu_learn_41 : decode bSu_learn 41 = .ok (.getfield 107, 3) := by decide +kernel
theorem dSu_learn_44 : decode bSu_learn 44 = .ok (.putfield 110, 3) := by decide +kernel
theorem dSu_learn_47 : decode bSu_learn 47 = .ok (.aload_n 0, 1) := by decide +kernel
theorem dSu_learn_48 : decode bSu_learn 48 = .ok (.aload_n 0, 1) := by decide +kernel
theorem dSu_learn_49 : decode bSu_learn 49 = .ok (.getfield 20, 3) := by decide +kernel
theorem dSu_learn_52 : decode bSu_learn 52 = .ok (.invokevirtual 113, 3) := by decide +kernel
theorem dSu_learn_55 : decode bSu_learn 55 = .ok (.putfield 117, 3) := by decide +kernel
theorem dSu_learn_58 : decode bSu_learn 58 = .ok (.aload_n 0, 1) := by decide +kernel
theorem dSu_learn_59 : decode bSu_learn 59 = .ok (.aload_n 0, 1) := by decide +kernel
theorem dSu_learn_60 : decode bSu_learn 60 = .ok (.getfield 20, 3) := by decide +kernel
theorem dSu_learn_63 : decode bSu_learn 63 = .ok (.aload_n 1, 1) := by decide +kernel
theorem dSu_learn_64 : decode bSu_learn 64 = .ok (.getfield 103, 3) := by decide +kernel
theorem dSu_learn_67 : decode bSu_learn 67 = .ok (.invokevirtual 121, 3) := by decide +kernel
theorem dSu_learn_70 : decode bSu_learn 70 = .ok (.putfield 125, 3) := by decide +kernel
theorem dSu_learn_73 : decode bSu_learn 73 = .ok (.aload_n 0, 1) := by decide +kernel
theorem dSu_learn_74 : decode bSu_learn 74 = .ok (.aload_n 0, 1) := by decide +kernel
theorem dSu_learn_75 : decode bSu_learn 75 = .ok (.getfield 117, 3) := by decide +kernel
theorem dSu_learn_78 : decode bSu_learn 78 = .ok (.lconst 0, 1) := by decide +kernel
theorem dSu_learn_79 : decode bSu_learn 79 = .ok (.lcmp, 1) := by decide +kernel
theorem dSu_learn_80 : decode bSu_learn 80 = .ok (.ifCond .le 7, 3) := by decide +kernel
theorem dSu_learn_83 : decode bSu_learn 83 = .ok (.iconst 1, 1) := by decide +kernel
theorem dSu_learn_84 : decode bSu_learn 84 = .ok (.goto 4, 3) := by decide +kernel
theorem dSu_learn_87 : decode bSu_learn 87 = .ok (.iconst 0, 1) := by decide +kernel
theorem dSu_learn_88 : decode bSu_learn 88 = .ok (.putfield 128, 3) := by decide +kernel
theorem dSu_learn_91 : decode bSu_learn 91 = .ok (.goto 28, 3) := by decide +kernel
theorem dSu_learn_94 : decode bSu_learn 94 = .ok (.aload_n 0, 1) := by decide +kernel
theorem dSu_learn_95 : decode bSu_learn 95 = .ok (.bipush (-2), 2) := by decide +kernel
theorem dSu_learn_97 : decode bSu_learn 97 = .ok (.putfield 110, 3) := by decide +kernel
theorem dSu_learn_100 : decode bSu_learn 100 = .ok (.aload_n 0, 1) := by decide +kernel
theorem dSu_learn_101 : decode bSu_learn 101 = .ok (.ldc2_w 131, 3) := by decide +kernel
theorem dSu_learn_104 : decode bSu_learn 104 = .ok (.putfield 117, 3) := by decide +kernel
theorem dSu_learn_107 : decode bSu_learn 107 = .ok (.aload_n 0, 1) := by decide +kernel
theorem dSu_learn_108 : decode bSu_learn 108 = .ok (.bipush (-2), 2) := by decide +kernel
theorem dSu_learn_110 : decode bSu_learn 110 = .ok (.putfield 125, 3) := by decide +kernel
theorem dSu_learn_113 : decode bSu_learn 113 = .ok (.aload_n 0, 1) := by decide +kernel
theorem dSu_learn_114 : decode bSu_learn 114 = .ok (.bipush (-2), 2) := by decide +kernel
theorem dSu_learn_116 : decode bSu_learn 116 = .ok (.putfield 128, 3) := by decide +kernel
theorem dSu_learn_119 : decode bSu_learn 119 = .ok (.return_, 1) := by decide +kernel
theorem dSu_init_0 : decode bSu_init 0 = .ok (.aload_n 0, 1) := by decide +kernel
theorem dSu_init_1 : decode bSu_init 1 = .ok (.invokespecial 3, 3) := by decide +kernel
theorem dSu_init_4 : decode bSu_init 4 = .ok (.aload_n 0, 1) := by decide +kernel
theorem dSu_init_5 : decode bSu_init 5 = .ok (.bipush 16, 2) := by decide +kernel
theorem dSu_init_7 : decode bSu_init 7 = .ok (.anewarray 9, 3) := by decide +kernel
theorem dSu_init_10 : decode bSu_init 10 = .ok (.putfield 11, 3) := by decide +kernel
theorem dSu_init_13 : decode bSu_init 13 = .ok (.aload_n 0, 1) := by decide +kernel
theorem dSu_init_14 : decode bSu_init 14 = .ok (.new 17, 3) := by decide +kernel
theorem dSu_init_17 : decode bSu_init 17 = .ok (.dup, 1) := by decide +kernel
theorem dSu_init_18 : decode bSu_init 18 = .ok (.invokespecial 19, 3) := by decide +kernel
theorem dSu_init_21 : decode bSu_init 21 = .ok (.putfield 20, 3) := by decide +kernel
theorem dSu_init_24 : decode bSu_init 24 = .ok (.aload_n 0, 1) := by decide +kernel
theorem dSu_init_25 : decode bSu_init 25 = .ok (.bipush 16, 2) := by decide +kernel
theorem dSu_init_27 : decode bSu_init 27 = .ok (.newarray .int, 2) := by decide +kernel
theorem dSu_init_29 : decode bSu_init 29 = .ok (.putfield 24, 3) := by decide +kernel
theorem dSu_init_32 : decode bSu_init 32 = .ok (.aload_n 0, 1) := by decide +kernel
theorem dSu_init_33 : decode bSu_init 33 = .ok (.bipush 16, 2) := by decide +kernel
theorem dSu_init_35 : decode bSu_init 35 = .ok (.newarray .int, 2) := by decide +kernel
theorem dSu_init_37 : decode bSu_init 37 = .ok (.putfield 28, 3) := by decide +kernel
theorem dSu_init_40 : decode bSu_init 40 = .ok (.aload_n 0, 1) := by decide +kernel
theorem dSu_init_41 : decode bSu_init 41 = .ok (.bipush 16, 2) := by decide +kernel
theorem dSu_init_43 : decode bSu_init 43 = .ok (.newarray .int, 2) := by decide +kernel
theorem dSu_init_45 : decode bSu_init 45 = .ok (.putfield 31, 3) := by decide +kernel
theorem dSu_init_48 : decode bSu_init 48 = .ok (.iconst 0, 1) := by decide +kernel
theorem dSu_init_49 : decode bSu_init 49 = .ok (.istore_n 1, 1) := by decide +kernel
theorem dSu_init_50 : decode bSu_init 50 = .ok (.iload_n 1, 1) := by decide +kernel
theorem dSu_init_51 : decode bSu_init 51 = .ok (.bipush 16, 2) := by decide +kernel
theorem dSu_init_53 : decode bSu_init 53 = .ok (.if_icmp .ge 22, 3) := by decide +kernel
theorem dSu_init_56 : decode bSu_init 56 = .ok (.aload_n 0, 1) := by decide +kernel
theorem dSu_init_57 : decode bSu_init 57 = .ok (.getfield 11, 3) := by decide +kernel
theorem dSu_init_60 : decode bSu_init 60 = .ok (.iload_n 1, 1) := by decide +kernel
theorem dSu_init_61 : decode bSu_init 61 = .ok (.new 9, 3) := by decide +kernel
theorem dSu_init_64 : decode bSu_init 64 = .ok (.dup, 1) := by decide +kernel
theorem dSu_init_65 : decode bSu_init 65 = .ok (.invokespecial 34, 3) := by decide +kernel
theorem dSu_init_68 : decode bSu_init 68 = .ok (.aastore, 1) := by decide +kernel
theorem dSu_init_69 : decode bSu_init 69 = .ok (.iinc 1 1, 3) := by decide +kernel
theorem dSu_init_72 : decode bSu_init 72 = .ok (.goto (-22), 3) := by decide +kernel
theorem dSu_init_75 : decode bSu_init 75 = .ok (.return_, 1) := by decide +kernel
theorem dSu_begin_0 : decode bSu_begin 0 = .ok (.aload_n 0, 1) := by decide +kernel
theorem dSu_begin_1 : decode bSu_begin 1 = .ok (.iload_n 1, 1) := by decide +kernel
theorem dSu_begin_2 : decode bSu_begin 2 = .ok (.putfield 35, 3) := by decide +kernel
theorem dSu_begin_5 : decode bSu_begin 5 = .ok (.aload_n 0, 1) := by decide +kernel
theorem dSu_begin_6 : decode bSu_begin 6 = .ok (.iconst 0, 1) := by decide +kernel
theorem dSu_begin_7 : decode bSu_begin 7 = .ok (.putfield 39, 3) := by decide +kernel
theorem dSu_begin_10 : decode bSu_begin 10 = .ok (.aload_n 0, 1) := by decide +kernel
theorem dSu_begin_11 : decode bSu_begin 11 = .ok (.iconst 0, 1) := by decide +kernel
theorem dSu_begin_12 : decode bSu_begin 12 = .ok (.putfield 42, 3) := by decide +kernel
theorem dSu_begin_15 : decode bSu_begin 15 = .ok (.aload_n 0, 1) := by decide +kernel
theorem dSu_begin_16 : decode bSu_begin 16 = .ok (.iconst 0, 1) := by decide +kernel
theorem dSu_begin_17 : decode bSu_begin 17 = .ok (.putfield 45, 3) := by decide +kernel
theorem dSu_begin_20 : decode bSu_begin 20 = .ok (.aload_n 0, 1) := by decide +kernel
theorem dSu_begin_21 : decode bSu_begin 21 = .ok (.iconst 0, 1) := by decide +kernel
theorem dSu_begin_22 : decode bSu_begin 22 = .ok (.putfield 48, 3) := by decide +kernel
theorem dSu_begin_25 : decode bSu_begin 25 = .ok (.aload_n 0, 1) := by decide +kernel
theorem dSu_begin_26 : decode bSu_begin 26 = .ok (.iconst (-1), 1) := by decide +kernel
theorem dSu_begin_27 : decode bSu_begin 27 = .ok (.putfield 51, 3) := by decide +kernel
theorem dSu_begin_30 : decode bSu_begin 30 = .ok (.aload_n 0, 1) := by decide +kernel
theorem dSu_begin_31 : decode bSu_begin 31 = .ok (.invokevirtual 54, 3) := by decide +kernel
theorem dSu_begin_34 : decode bSu_begin 34 = .ok (.return_, 1) := by decide +kernel
theorem dSu_forget_0 : decode bSu_forget 0 = .ok (.aload_n 0, 1) := by decide +kernel
theorem dSu_forget_1 : decode bSu_forget 1 = .ok (.iconst 0, 1) := by decide +kernel
theorem dSu_forget_2 : decode bSu_forget 2 = .ok (.putfield 57, 3) := by decide +kernel
theorem dSu_forget_5 : decode bSu_forget 5 = .ok (.aload_n 0, 1) := by decide +kernel
theorem dSu_forget_6 : decode bSu_forget 6 = .ok (.iconst 0, 1) := by decide +kernel
theorem dSu_forget_7 : decode bSu_forget 7 = .ok (.putfield 61, 3) := by decide +kernel
theorem dSu_forget_10 : decode bSu_forget 10 = .ok (.return_, 1) := by decide +kernel
theorem dSu_operationsOfKind_0 : decode bSu_operationsOfKind 0 = .ok (.aload_n 0, 1) := by decide +kernel
theorem dSu_operationsOfKind_1 : decode bSu_operationsOfKind 1 = .ok (.getfield 35, 3) := by decide +kernel
theorem dSu_operationsOfKind_4 : decode bSu_operationsOfKind 4 = .ok (.ifCond .ne 7, 3) := by decide +kernel
theorem dSu_operationsOfKind_7 : decode bSu_operationsOfKind 7 = .ok (.iconst 5, 1) := by decide +kernel
theorem dSu_operationsOfKind_8 : decode bSu_operationsOfKind 8 = .ok (.goto 4, 3) := by decide +kernel
theorem dSu_operationsOfKind_11 : decode bSu_operationsOfKind 11 = .ok (.iconst 3, 1) := by decide +kernel
theorem dSu_operationsOfKind_12 : decode bSu_operationsOfKind 12 = .ok (.ireturn, 1) := by decide +kernel
theorem dSu_addOperation_0 : decode bSu_addOperation 0 = .ok (.aload_n 0, 1) := by decide +kernel
theorem dSu_addOperation_1 : decode bSu_addOperation 1 = .ok (.getfield 39, 3) := by decide +kernel
theorem dSu_addOperation_4 : decode bSu_addOperation 4 = .ok (.bipush 16, 2) := by decide +kernel
theorem dSu_addOperation_6 : decode bSu_addOperation 6 = .ok (.if_icmp .lt 4, 3) := by decide +kernel
theorem dSu_addOperation_9 : decode bSu_addOperation 9 = .ok (.return_, 1) := by decide +kernel
theorem dSu_addOperation_10 : decode bSu_addOperation 10 = .ok (.aload_n 0, 1) := by decide +kernel
theorem dSu_addOperation_11 : decode bSu_addOperation 11 = .ok (.getfield 11, 3) := by decide +kernel
theorem dSu_addOperation_14 : decode bSu_addOperation 14 = .ok (.aload_n 0, 1) := by decide +kernel
theorem dSu_addOperation_15 : decode bSu_addOperation 15 = .ok (.getfield 39, 3) := by decide +kernel
theorem dSu_addOperation_18 : decode bSu_addOperation 18 = .ok (.aaload, 1) := by decide +kernel
theorem dSu_addOperation_19 : decode bSu_addOperation 19 = .ok (.astore 5, 2) := by decide +kernel
theorem dSu_addOperation_21 : decode bSu_addOperation 21 = .ok (.aload 5, 2) := by decide +kernel
theorem dSu_addOperation_23 : decode bSu_addOperation 23 = .ok (.iload_n 1, 1) := by decide +kernel
theorem dSu_addOperation_24 : decode bSu_addOperation 24 = .ok (.putfield 64, 3) := by decide +kernel
theorem dSu_addOperation_27 : decode bSu_addOperation 27 = .ok (.aload 5, 2) := by decide +kernel
theorem dSu_addOperation_29 : decode bSu_addOperation 29 = .ok (.iload_n 2, 1) := by decide +kernel
theorem dSu_addOperation_30 : decode bSu_addOperation 30 = .ok (.putfield 67, 3) := by decide +kernel
theorem dSu_addOperation_33 : decode bSu_addOperation 33 = .ok (.aload 5, 2) := by decide +kernel
theorem dSu_addOperation_35 : decode bSu_addOperation 35 = .ok (.iload_n 3, 1) := by decide +kernel
theorem dSu_addOperation_36 : decode bSu_addOperation 36 = .ok (.putfield 70, 3) := by decide +kernel
theorem dSu_addOperation_39 : decode bSu_addOperation 39 = .ok (.aload 5, 2) := by decide +kernel
theorem dSu_addOperation_41 : decode bSu_addOperation 41 = .ok (.iload 4, 2) := by decide +kernel
theorem dSu_addOperation_43 : decode bSu_addOperation 43 = .ok (.putfield 73, 3) := by decide +kernel
theorem dSu_addOperation_46 : decode bSu_addOperation 46 = .ok (.aload 5, 2) := by decide +kernel
theorem dSu_addOperation_48 : decode bSu_addOperation 48 = .ok (.iconst 0, 1) := by decide +kernel
theorem dSu_addOperation_49 : decode bSu_addOperation 49 = .ok (.putfield 76, 3) := by decide +kernel
theorem dSu_addOperation_52 : decode bSu_addOperation 52 = .ok (.aload 5, 2) := by decide +kernel
theorem dSu_addOperation_54 : decode bSu_addOperation 54 = .ok (.aload_n 0, 1) := by decide +kernel
theorem dSu_addOperation_55 : decode bSu_addOperation 55 = .ok (.getfield 45, 3) := by decide +kernel
theorem dSu_addOperation_58 : decode bSu_addOperation 58 = .ok (.putfield 79, 3) := by decide +kernel
theorem dSu_addOperation_61 : decode bSu_addOperation 61 = .ok (.aload 5, 2) := by decide +kernel
theorem dSu_addOperation_63 : decode bSu_addOperation 63 = .ok (.aload_n 0, 1) := by decide +kernel
theorem dSu_addOperation_64 : decode bSu_addOperation 64 = .ok (.iload_n 1, 1) := by decide +kernel
theorem dSu_addOperation_65 : decode bSu_addOperation 65 = .ok (.invokevirtual 82, 3) := by decide +kernel
theorem dSu_addOperation_68 : decode bSu_addOperation 68 = .ok (.putfield 86, 3) := by decide +kernel
theorem dSu_addOperation_71 : decode bSu_addOperation 71 = .ok (.aload 5, 2) := by decide +kernel
theorem dSu_addOperation_73 : decode bSu_addOperation 73 = .ok (.aload_n 0, 1) := by decide +kernel
theorem dSu_addOperation_74 : decode bSu_addOperation 74 = .ok (.aload_n 0, 1) := by decide +kernel
theorem dSu_addOperation_75 : decode bSu_addOperation 75 = .ok (.aload 5, 2) := by decide +kernel
theorem dSu_addOperation_77 : decode bSu_addOperation 77 = .ok (.invokevirtual 89, 3) := by decide +kernel
theorem dSu_addOperation_80 : decode bSu_addOperation 80 = .ok (.invokevirtual 93, 3) := by decide +kernel
theorem dSu_addOperation_83 : decode bSu_addOperation 83 = .ok (.putfield 96, 3) := by decide +kernel
theorem dSu_addOperation_86 : decode bSu_addOperation 86 = .ok (.aload_n 0, 1) := by decide +kernel
theorem dSu_addOperation_87 : decode bSu_addOperation 87 = .ok (.dup, 1) := by decide +kernel
theorem dSu_addOperation_88 : decode bSu_addOperation 88 = .ok (.getfield 39, 3) := by decide +kernel
theorem dSu_addOperation_91 : decode bSu_addOperation 91 = .ok (.iconst 1, 1) := by decide +kernel
theorem dSu_addOperation_92 : decode bSu_addOperation 92 = .ok (.iadd, 1) := by decide +kernel
theorem dSu_addOperation_93 : decode bSu_addOperation 93 = .ok (.putfield 39, 3) := by decide +kernel
theorem dSu_addOperation_96 : decode bSu_addOperation 96 = .ok (.aload_n 0, 1) := by decide +kernel
theorem dSu_addOperation_97 : decode bSu_addOperation 97 = .ok (.invokevirtual 54, 3) := by decide +kernel
theorem dSu_addOperation_100 : decode bSu_addOperation 100 = .ok (.return_, 1) := by decide +kernel
theorem dSu_placesOf_0 : decode bSu_placesOf 0 = .ok (.iconst 0, 1) := by decide +kernel
theorem dSu_placesOf_1 : decode bSu_placesOf 1 = .ok (.istore_n 2, 1) := by decide +kernel
theorem dSu_placesOf_2 : decode bSu_placesOf 2 = .ok (.iconst 0, 1) := by decide +kernel
theorem dSu_placesOf_3 : decode bSu_placesOf 3 = .ok (.istore_n 3, 1) := by decide +kernel
theorem dSu_placesOf_4 : decode bSu_placesOf 4 = .ok (.iload_n 3, 1) := by decide +kernel
theorem dSu_placesOf_5 : decode bSu_placesOf 5 = .ok (.aload_n 0, 1) := by decide +kernel
theorem dSu_placesOf_6 : decode bSu_placesOf 6 = .ok (.getfield 39, 3) := by decide +kernel
theorem dSu_placesOf_9 : decode bSu_placesOf 9 = .ok (.if_icmp .ge 28, 3) := by decide +kernel
theorem dSu_placesOf_12 : decode bSu_placesOf 12 = .ok (.aload_n 0, 1) := by decide +kernel
theorem dSu_placesOf_13 : decode bSu_placesOf 13 = .ok (.getfield 11, 3) := by decide +kernel
theorem dSu_placesOf_16 : decode bSu_placesOf 16 = .ok (.iload_n 3, 1) := by decide +kernel
theorem dSu_placesOf_17 : decode bSu_placesOf 17 = .ok (.aaload, 1) := by decide +kernel
theorem dSu_placesOf_18 : decode bSu_placesOf 18 = .ok (.getfield 64, 3) := by decide +kernel
theorem dSu_placesOf_21 : decode bSu_placesOf 21 = .ok (.iload_n 1, 1) := by decide +kernel
theorem dSu_placesOf_22 : decode bSu_placesOf 22 = .ok (.if_icmp .ne 9, 3) := by decide +kernel
theorem dSu_placesOf_25 : decode bSu_placesOf 25 = .ok (.iload_n 2, 1) := by decide +kernel
theorem dSu_placesOf_26 : decode bSu_placesOf 26 = .ok (.iconst 1, 1) := by decide +kernel
theorem dSu_placesOf_27 : decode bSu_placesOf 27 = .ok (.iload_n 3, 1) := by decide +kernel
theorem dSu_placesOf_28 : decode bSu_placesOf 28 = .ok (.ishl, 1) := by decide +kernel
theorem dSu_placesOf_29 : decode bSu_placesOf 29 = .ok (.ior, 1) := by decide +kernel
theorem dSu_placesOf_30 : decode bSu_placesOf 30 = .ok (.istore_n 2, 1) := by decide +kernel
theorem dSu_placesOf_31 : decode bSu_placesOf 31 = .ok (.iinc 3 1, 3) := by decide +kernel
theorem dSu_placesOf_34 : decode bSu_placesOf 34 = .ok (.goto (-30), 3) := by decide +kernel
theorem dSu_placesOf_37 : decode bSu_placesOf 37 = .ok (.iload_n 2, 1) := by decide +kernel
theorem dSu_placesOf_38 : decode bSu_placesOf 38 = .ok (.ireturn, 1) := by decide +kernel
theorem dSu_numberOf_0 : decode bSu_numberOf 0 = .ok (.aload_n 0, 1) := by decide +kernel
theorem dSu_numberOf_1 : decode bSu_numberOf 1 = .ok (.getfield 35, 3) := by decide +kernel
theorem dSu_numberOf_4 : decode bSu_numberOf 4 = .ok (.iconst 5, 1) := by decide +kernel
theorem dSu_numberOf_5 : decode bSu_numberOf 5 = .ok (.if_icmp .ne 10, 3) := by decide +kernel
theorem dSu_numberOf_8 : decode bSu_numberOf 8 = .ok (.aload_n 1, 1) := by decide +kernel
theorem dSu_numberOf_9 : decode bSu_numberOf 9 = .ok (.getfield 73, 3) := by decide +kernel
theorem dSu_numberOf_12 : decode bSu_numberOf 12 = .ok (.goto 7, 3) := by decide +kernel
theorem dSu_numberOf_15 : decode bSu_numberOf 15 = .ok (.aload_n 1, 1) := by decide +kernel
theorem dSu_numberOf_16 : decode bSu_numberOf 16 = .ok (.getfield 70, 3) := by decide +kernel
theorem dSu_numberOf_19 : decode bSu_numberOf 19 = .ok (.ireturn, 1) := by decide +kernel
theorem dSu_nameOf_0 : decode bSu_nameOf 0 = .ok (.iconst 0, 1) := by decide +kernel
theorem dSu_nameOf_1 : decode bSu_nameOf 1 = .ok (.istore_n 2, 1) := by decide +kernel
theorem dSu_nameOf_2 : decode bSu_nameOf 2 = .ok (.iload_n 2, 1) := by decide +kernel
theorem dSu_nameOf_3 : decode bSu_nameOf 3 = .ok (.aload_n 0, 1) := by decide +kernel
theorem dSu_nameOf_4 : decode bSu_nameOf 4 = .ok (.getfield 39, 3) := by decide +kernel
theorem dSu_nameOf_7 : decode bSu_nameOf 7 = .ok (.if_icmp .ge 25, 3) := by decide +kernel
theorem dSu_nameOf_10 : decode bSu_nameOf 10 = .ok (.aload_n 0, 1) := by decide +kernel
theorem dSu_nameOf_11 : decode bSu_nameOf 11 = .ok (.aload_n 0, 1) := by decide +kernel
theorem dSu_nameOf_12 : decode bSu_nameOf 12 = .ok (.getfield 11, 3) := by decide +kernel
theorem dSu_nameOf_15 : decode bSu_nameOf 15 = .ok (.iload_n 2, 1) := by decide +kernel
theorem dSu_nameOf_16 : decode bSu_nameOf 16 = .ok (.aaload, 1) := by decide +kernel
theorem dSu_nameOf_17 : decode bSu_nameOf 17 = .ok (.invokevirtual 89, 3) := by decide +kernel
theorem dSu_nameOf_20 : decode bSu_nameOf 20 = .ok (.iload_n 1, 1) := by decide +kernel
theorem dSu_nameOf_21 : decode bSu_nameOf 21 = .ok (.if_icmp .ne 5, 3) := by decide +kernel
theorem dSu_nameOf_24 : decode bSu_nameOf 24 = .ok (.iload_n 2, 1) := by decide +kernel
theorem dSu_nameOf_25 : decode bSu_nameOf 25 = .ok (.ireturn, 1) := by decide +kernel
theorem dSu_nameOf_26 : decode bSu_nameOf 26 = .ok (.iinc 2 1, 3) := by decide +kernel
theorem dSu_nameOf_29 : decode bSu_nameOf 29 = .ok (.goto (-27), 3) := by decide +kernel
theorem dSu_nameOf_32 : decode bSu_nameOf 32 = .ok (.aload_n 0, 1) := by decide +kernel
theorem dSu_nameOf_33 : decode bSu_nameOf 33 = .ok (.getfield 39, 3) := by decide +kernel
theorem dSu_nameOf_36 : decode bSu_nameOf 36 = .ok (.ireturn, 1) := by decide +kernel
theorem dSu_endOperation_0 : decode bSu_endOperation 0 = .ok (.iload_n 1, 1) := by decide +kernel
theorem dSu_endOperation_1 : decode bSu_endOperation 1 = .ok (.ifCond .lt 20, 3) := by decide +kernel
theorem dSu_endOperation_4 : decode bSu_endOperation 4 = .ok (.iload_n 1, 1) := by decide +kernel
theorem dSu_endOperation_5 : decode bSu_endOperation 5 = .ok (.aload_n 0, 1) := by decide +kernel
theorem dSu_endOperation_6 : decode bSu_endOperation 6 = .ok (.getfield 39, 3) := by decide +kernel
theorem dSu_endOperation_9 : decode bSu_endOperation 9 = .ok (.if_icmp .ge 12, 3) := by decide +kernel
theorem dSu_endOperation_12 : decode bSu_endOperation 12 = .ok (.aload_n 0, 1) := by decide +kernel
theorem dSu_endOperation_13 : decode bSu_endOperation 13 = .ok (.getfield 42, 3) := by decide +kernel
theorem dSu_endOperation_16 : decode bSu_endOperation 16 = .ok (.bipush 16, 2) := by decide +kernel
theorem dSu_endOperation_18 : decode bSu_endOperation 18 = .ok (.if_icmp .lt 4, 3) := by decide +kernel
theorem dSu_endOperation_21 : decode bSu_endOperation 21 = .ok (.return_, 1) := by decide +kernel
theorem dSu_endOperation_22 : decode bSu_endOperation 22 = .ok (.aload_n 0, 1) := by decide +kernel
theorem dSu_endOperation_23 : decode bSu_endOperation 23 = .ok (.getfield 11, 3) := by decide +kernel
theorem dSu_endOperation_26 : decode bSu_endOperation 26 = .ok (.iload_n 1, 1) := by decide +kernel
theorem dSu_endOperation_27 : decode bSu_endOperation 27 = .ok (.aaload, 1) := by decide +kernel
theorem dSu_endOperation_28 : decode bSu_endOperation 28 = .ok (.iload_n 2, 1) := by decide +kernel
theorem dSu_endOperation_29 : decode bSu_endOperation 29 = .ok (.putfield 76, 3) := by decide +kernel
theorem dSu_endOperation_32 : decode bSu_endOperation 32 = .ok (.aload_n 0, 1) := by decide +kernel
theorem dSu_endOperation_33 : decode bSu_endOperation 33 = .ok (.dup, 1) := by decide +kernel
theorem dSu_endOperation_34 : decode bSu_endOperation 34 = .ok (.getfield 45, 3) := by decide +kernel
theorem dSu_endOperation_37 : decode bSu_endOperation 37 = .ok (.iconst 1, 1) := by decide +kernel
theorem dSu_endOperation_38 : decode bSu_endOperation 38 = .ok (.iload_n 1, 1) := by decide +kernel
theorem dSu_endOperation_39 : decode bSu_endOperation 39 = .ok (.ishl, 1) := by decide +kernel
theorem dSu_endOperation_40 : decode bSu_endOperation 40 = .ok (.ior, 1) := by decide +kernel
theorem dSu_endOperation_41 : decode bSu_endOperation 41 = .ok (.putfield 45, 3) := by decide +kernel
theorem dSu_endOperation_44 : decode bSu_endOperation 44 = .ok (.aload_n 0, 1) := by decide +kernel
theorem dSu_endOperation_45 : decode bSu_endOperation 45 = .ok (.getfield 24, 3) := by decide +kernel
theorem dSu_endOperation_48 : decode bSu_endOperation 48 = .ok (.aload_n 0, 1) := by decide +kernel
theorem dSu_endOperation_49 : decode bSu_endOperation 49 = .ok (.getfield 42, 3) := by decide +kernel
theorem dSu_endOperation_52 : decode bSu_endOperation 52 = .ok (.iload_n 3, 1) := by decide +kernel
theorem dSu_endOperation_53 : decode bSu_endOperation 53 = .ok (.iastore, 1) := by decide +kernel
theorem dSu_endOperation_54 : decode bSu_endOperation 54 = .ok (.aload_n 0, 1) := by decide +kernel
theorem dSu_endOperation_55 : decode bSu_endOperation 55 = .ok (.getfield 28, 3) := by decide +kernel
theorem dSu_endOperation_58 : decode bSu_endOperation 58 = .ok (.aload_n 0, 1) := by decide +kernel
theorem dSu_endOperation_59 : decode bSu_endOperation 59 = .ok (.getfield 42, 3) := by decide +kernel
theorem dSu_endOperation_62 : decode bSu_endOperation 62 = .ok (.aload_n 0, 1) := by decide +kernel
theorem dSu_endOperation_63 : decode bSu_endOperation 63 = .ok (.getfield 39, 3) := by decide +kernel
theorem dSu_endOperation_66 : decode bSu_endOperation 66 = .ok (.iastore, 1) := by decide +kernel
theorem dSu_endOperation_67 : decode bSu_endOperation 67 = .ok (.aload_n 0, 1) := by decide +kernel
theorem dSu_endOperation_68 : decode bSu_endOperation 68 = .ok (.getfield 31, 3) := by decide +kernel
theorem dSu_endOperation_71 : decode bSu_endOperation 71 = .ok (.aload_n 0, 1) := by decide +kernel
theorem dSu_endOperation_72 : decode bSu_endOperation 72 = .ok (.getfield 42, 3) := by decide +kernel
theorem dSu_endOperation_75 : decode bSu_endOperation 75 = .ok (.aload_n 0, 1) := by decide +kernel
theorem dSu_endOperation_76 : decode bSu_endOperation 76 = .ok (.getfield 45, 3) := by decide +kernel
theorem dSu_endOperation_79 : decode bSu_endOperation 79 = .ok (.iastore, 1) := by decide +kernel
theorem dSu_endOperation_80 : decode bSu_endOperation 80 = .ok (.aload_n 0, 1) := by decide +kernel
theorem dSu_endOperation_81 : decode bSu_endOperation 81 = .ok (.dup, 1) := by decide +kernel
theorem dSu_endOperation_82 : decode bSu_endOperation 82 = .ok (.getfield 42, 3) := by decide +kernel
theorem dSu_endOperation_85 : decode bSu_endOperation 85 = .ok (.iconst 1, 1) := by decide +kernel
theorem dSu_endOperation_86 : decode bSu_endOperation 86 = .ok (.iadd, 1) := by decide +kernel
theorem dSu_endOperation_87 : decode bSu_endOperation 87 = .ok (.putfield 42, 3) := by decide +kernel
theorem dSu_endOperation_90 : decode bSu_endOperation 90 = .ok (.aload_n 0, 1) := by decide +kernel
theorem dSu_endOperation_91 : decode bSu_endOperation 91 = .ok (.invokevirtual 54, 3) := by decide +kernel
theorem dSu_endOperation_94 : decode bSu_endOperation 94 = .ok (.return_, 1) := by decide +kernel
theorem dSu_learnOwn_0 : decode bSu_learnOwn 0 = .ok (.aload_n 0, 1) := by decide +kernel
theorem dSu_learnOwn_1 : decode bSu_learnOwn 1 = .ok (.getfield 61, 3) := by decide +kernel
theorem dSu_learnOwn_4 : decode bSu_learnOwn 4 = .ok (.ifCond .eq 4, 3) := by decide +kernel
theorem dSu_learnOwn_7 : decode bSu_learnOwn 7 = .ok (.return_, 1) := by decide +kernel
theorem dSu_learnOwn_8 : decode bSu_learnOwn 8 = .ok (.aload_n 0, 1) := by decide +kernel
theorem dSu_learnOwn_9 : decode bSu_learnOwn 9 = .ok (.iconst 1, 1) := by decide +kernel
theorem dSu_learnOwn_10 : decode bSu_learnOwn 10 = .ok (.putfield 61, 3) := by decide +kernel
theorem dSu_learnOwn_13 : decode bSu_learnOwn 13 = .ok (.aload_n 1, 1) := by decide +kernel
theorem dSu_learnOwn_14 : decode bSu_learnOwn 14 = .ok (.aload_n 0, 1) := by decide +kernel
theorem dSu_learnOwn_15 : decode bSu_learnOwn 15 = .ok (.aload_n 0, 1) := by decide +kernel
theorem dSu_learnOwn_16 : decode bSu_learnOwn 16 = .ok (.getfield 39, 3) := by decide +kernel
theorem dSu_learnOwn_19 : decode bSu_learnOwn 19 = .ok (.aload_n 0, 1) := by decide +kernel
theorem dSu_learnOwn_20 : decode bSu_learnOwn 20 = .ok (.getfield 45, 3) := by decide +kernel
theorem dSu_learnOwn_23 : decode bSu_learnOwn 23 = .ok (.iconst 1, 1) := by decide +kernel
theorem dSu_learnOwn_24 : decode bSu_learnOwn 24 = .ok (.invokevirtual 99, 3) := by decide +kernel
theorem dSu_learnOwn_27 : decode bSu_learnOwn 27 = .ok (.ifCond .eq 24, 3) := by decide +kernel
theorem dSu_learnOwn_30 : decode bSu_learnOwn 30 = .ok (.aload_n 0, 1) := by decide +kernel
theorem dSu_learnOwn_31 : decode bSu_learnOwn 31 = .ok (.aload_n 1, 1) := by decide +kernel
theorem dSu_learnOwn_32 : decode bSu_learnOwn 32 = .ok (.invokevirtual 113, 3) := by decide +kernel
theorem dSu_learnOwn_35 : decode bSu_learnOwn 35 = .ok (.lconst 0, 1) := by decide +kernel
theorem dSu_learnOwn_36 : decode bSu_learnOwn 36 = .ok (.lcmp, 1) := by decide +kernel
theorem dSu_learnOwn_37 : decode bSu_learnOwn 37 = .ok (.ifCond .le 7, 3) := by decide +kernel
theorem dSu_learnOwn_40 : decode bSu_learnOwn 40 = .ok (.iconst 1, 1) := by decide +kernel
theorem dSu_learnOwn_41 : decode bSu_learnOwn 41 = .ok (.goto 4, 3) := by decide +kernel
theorem dSu_learnOwn_44 : decode bSu_learnOwn 44 = .ok (.iconst 0, 1) := by decide +kernel
theorem dSu_learnOwn_45 : decode bSu_learnOwn 45 = .ok (.putfield 133, 3) := by decide +kernel
theorem dSu_learnOwn_48 : decode bSu_learnOwn 48 = .ok (.goto 9, 3) := by decide +kernel
theorem dSu_learnOwn_51 : decode bSu_learnOwn 51 = .ok (.aload_n 0, 1) := by decide +kernel
theorem dSu_learnOwn_52 : decode bSu_learnOwn 52 = .ok (.bipush (-2), 2) := by decide +kernel
theorem dSu_learnOwn_54 : decode bSu_learnOwn 54 = .ok (.putfield 133, 3) := by decide +kernel
theorem dSu_learnOwn_57 : decode bSu_learnOwn 57 = .ok (.return_, 1) := by decide +kernel
end
section
theorem dSu_learnBreak_0 : decode bSu_learnBreak 0 = .ok (.aload_n 0, 1) := by decide +kernel
theorem dSu_learnBreak_1 : decode bSu_learnBreak 1 = .ok (.aload_n 1, 1) := by decide +kernel
theorem dSu_learnBreak_2 : decode bSu_learnBreak 2 = .ok (.invokevirtual 136, 3) := by decide +kernel
theorem dSu_learnBreak_5 : decode bSu_learnBreak 5 = .ok (.aload_n 0, 1) := by decide +kernel
theorem dSu_learnBreak_6 : decode bSu_learnBreak 6 = .ok (.getfield 128, 3) := by decide +kernel
theorem dSu_learnBreak_9 : decode bSu_learnBreak 9 = .ok (.iconst 1, 1) := by decide +kernel
theorem dSu_learnBreak_10 : decode bSu_learnBreak 10 = .ok (.if_icmp .ne 10, 3) := by decide +kernel
theorem dSu_learnBreak_13 : decode bSu_learnBreak 13 = .ok (.aload_n 0, 1) := by decide +kernel
theorem dSu_learnBreak_14 : decode bSu_learnBreak 14 = .ok (.getfield 42, 3) := by decide +kernel
theorem dSu_learnBreak_17 : decode bSu_learnBreak 17 = .ok (.goto 7, 3) := by decide +kernel
theorem dSu_learnBreak_20 : decode bSu_learnBreak 20 = .ok (.aload_n 0, 1) := by decide +kernel
theorem dSu_learnBreak_21 : decode bSu_learnBreak 21 = .ok (.getfield 48, 3) := by decide +kernel
theorem dSu_learnBreak_24 : decode bSu_learnBreak 24 = .ok (.istore_n 2, 1) := by decide +kernel
theorem dSu_learnBreak_25 : decode bSu_learnBreak 25 = .ok (.iload_n 2, 1) := by decide +kernel
theorem dSu_learnBreak_26 : decode bSu_learnBreak 26 = .ok (.istore_n 3, 1) := by decide +kernel
theorem dSu_learnBreak_27 : decode bSu_learnBreak 27 = .ok (.iload_n 3, 1) := by decide +kernel
theorem dSu_learnBreak_28 : decode bSu_learnBreak 28 = .ok (.aload_n 0, 1) := by decide +kernel
theorem dSu_learnBreak_29 : decode bSu_learnBreak 29 = .ok (.getfield 42, 3) := by decide +kernel
theorem dSu_learnBreak_32 : decode bSu_learnBreak 32 = .ok (.if_icmp .ge 61, 3) := by decide +kernel
theorem dSu_learnBreak_35 : decode bSu_learnBreak 35 = .ok (.aload_n 0, 1) := by decide +kernel
theorem dSu_learnBreak_36 : decode bSu_learnBreak 36 = .ok (.getfield 51, 3) := by decide +kernel
theorem dSu_learnBreak_39 : decode bSu_learnBreak 39 = .ok (.iconst (-1), 1) := by decide +kernel
theorem dSu_learnBreak_40 : decode bSu_learnBreak 40 = .ok (.if_icmp .ne 53, 3) := by decide +kernel
theorem dSu_learnBreak_43 : decode bSu_learnBreak 43 = .ok (.aload_n 1, 1) := by decide +kernel
theorem dSu_learnBreak_44 : decode bSu_learnBreak 44 = .ok (.aload_n 0, 1) := by decide +kernel
theorem dSu_learnBreak_45 : decode bSu_learnBreak 45 = .ok (.aload_n 0, 1) := by decide +kernel
theorem dSu_learnBreak_46 : decode bSu_learnBreak 46 = .ok (.getfield 28, 3) := by decide +kernel
theorem dSu_learnBreak_49 : decode bSu_learnBreak 49 = .ok (.iload_n 3, 1) := by decide +kernel
theorem dSu_learnBreak_50 : decode bSu_learnBreak 50 = .ok (.iaload, 1) := by decide +kernel
theorem dSu_learnBreak_51 : decode bSu_learnBreak 51 = .ok (.aload_n 0, 1) := by decide +kernel
theorem dSu_learnBreak_52 : decode bSu_learnBreak 52 = .ok (.getfield 31, 3) := by decide +kernel
theorem dSu_learnBreak_55 : decode bSu_learnBreak 55 = .ok (.iload_n 3, 1) := by decide +kernel
theorem dSu_learnBreak_56 : decode bSu_learnBreak 56 = .ok (.iaload, 1) := by decide +kernel
theorem dSu_learnBreak_57 : decode bSu_learnBreak 57 = .ok (.iconst 0, 1) := by decide +kernel
theorem dSu_learnBreak_58 : decode bSu_learnBreak 58 = .ok (.invokevirtual 99, 3) := by decide +kernel
theorem dSu_learnBreak_61 : decode bSu_learnBreak 61 = .ok (.istore 4, 2) := by decide +kernel
theorem dSu_learnBreak_63 : decode bSu_learnBreak 63 = .ok (.iload 4, 2) := by decide +kernel
theorem dSu_learnBreak_65 : decode bSu_learnBreak 65 = .ok (.ifCond .eq 22, 3) := by decide +kernel
theorem dSu_learnBreak_68 : decode bSu_learnBreak 68 = .ok (.aload_n 1, 1) := by decide +kernel
theorem dSu_learnBreak_69 : decode bSu_learnBreak 69 = .ok (.invokevirtual 113, 3) := by decide +kernel
theorem dSu_learnBreak_72 : decode bSu_learnBreak 72 = .ok (.lconst 0, 1) := by decide +kernel
theorem dSu_learnBreak_73 : decode bSu_learnBreak 73 = .ok (.lcmp, 1) := by decide +kernel
theorem dSu_learnBreak_74 : decode bSu_learnBreak 74 = .ok (.ifCond .ne 13, 3) := by decide +kernel
theorem dSu_learnBreak_77 : decode bSu_learnBreak 77 = .ok (.aload_n 0, 1) := by decide +kernel
theorem dSu_learnBreak_78 : decode bSu_learnBreak 78 = .ok (.aload_n 0, 1) := by decide +kernel
theorem dSu_learnBreak_79 : decode bSu_learnBreak 79 = .ok (.getfield 24, 3) := by decide +kernel
theorem dSu_learnBreak_82 : decode bSu_learnBreak 82 = .ok (.iload_n 3, 1) := by decide +kernel
theorem dSu_learnBreak_83 : decode bSu_learnBreak 83 = .ok (.iaload, 1) := by decide +kernel
theorem dSu_learnBreak_84 : decode bSu_learnBreak 84 = .ok (.putfield 51, 3) := by decide +kernel
theorem dSu_learnBreak_87 : decode bSu_learnBreak 87 = .ok (.iinc 3 1, 3) := by decide +kernel
theorem dSu_learnBreak_90 : decode bSu_learnBreak 90 = .ok (.goto (-63), 3) := by decide +kernel
theorem dSu_learnBreak_93 : decode bSu_learnBreak 93 = .ok (.aload_n 0, 1) := by decide +kernel
theorem dSu_learnBreak_94 : decode bSu_learnBreak 94 = .ok (.aload_n 0, 1) := by decide +kernel
theorem dSu_learnBreak_95 : decode bSu_learnBreak 95 = .ok (.getfield 42, 3) := by decide +kernel
theorem dSu_learnBreak_98 : decode bSu_learnBreak 98 = .ok (.putfield 48, 3) := by decide +kernel
theorem dSu_learnBreak_101 : decode bSu_learnBreak 101 = .ok (.return_, 1) := by decide +kernel
end
section
theorem dTa_init_0 : decode bTa_init 0 = .ok (.aload_n 0, 1) := by decide +kernel
theorem dTa_init_1 : decode bTa_init 1 = .ok (.invokespecial 3, 3) := by decide +kernel
theorem dTa_init_4 : decode bTa_init 4 = .ok (.aload_n 0, 1) := by decide +kernel
theorem dTa_init_5 : decode bTa_init 5 = .ok (.sipush 2000, 3) := by decide +kernel
theorem dTa_init_8 : decode bTa_init 8 = .ok (.newarray .int, 2) := by decide +kernel
theorem dTa_init_10 : decode bTa_init 10 = .ok (.putfield 9, 3) := by decide +kernel
theorem dTa_init_13 : decode bTa_init 13 = .ok (.aload_n 0, 1) := by decide +kernel
theorem dTa_init_14 : decode bTa_init 14 = .ok (.sipush 2000, 3) := by decide +kernel
theorem dTa_init_17 : decode bTa_init 17 = .ok (.newarray .long, 2) := by decide +kernel
theorem dTa_init_19 : decode bTa_init 19 = .ok (.putfield 15, 3) := by decide +kernel
theorem dTa_init_22 : decode bTa_init 22 = .ok (.aload_n 0, 1) := by decide +kernel
theorem dTa_init_23 : decode bTa_init 23 = .ok (.sipush 1024, 3) := by decide +kernel
theorem dTa_init_26 : decode bTa_init 26 = .ok (.newarray .int, 2) := by decide +kernel
theorem dTa_init_28 : decode bTa_init 28 = .ok (.putfield 19, 3) := by decide +kernel
theorem dTa_init_31 : decode bTa_init 31 = .ok (.aload_n 0, 1) := by decide +kernel
theorem dTa_init_32 : decode bTa_init 32 = .ok (.sipush 2000, 3) := by decide +kernel
theorem dTa_init_35 : decode bTa_init 35 = .ok (.newarray .int, 2) := by decide +kernel
theorem dTa_init_37 : decode bTa_init 37 = .ok (.putfield 22, 3) := by decide +kernel
theorem dTa_init_40 : decode bTa_init 40 = .ok (.return_, 1) := by decide +kernel
theorem dTa_makeEmpty_0 : decode bTa_makeEmpty 0 = .ok (.aload_n 0, 1) := by decide +kernel
theorem dTa_makeEmpty_1 : decode bTa_makeEmpty 1 = .ok (.iconst 0, 1) := by decide +kernel
theorem dTa_makeEmpty_2 : decode bTa_makeEmpty 2 = .ok (.putfield 25, 3) := by decide +kernel
theorem dTa_makeEmpty_5 : decode bTa_makeEmpty 5 = .ok (.aload_n 0, 1) := by decide +kernel
theorem dTa_makeEmpty_6 : decode bTa_makeEmpty 6 = .ok (.getfield 19, 3) := by decide +kernel
theorem dTa_makeEmpty_9 : decode bTa_makeEmpty 9 = .ok (.iconst (-1), 1) := by decide +kernel
theorem dTa_makeEmpty_10 : decode bTa_makeEmpty 10 = .ok (.invokestatic 29, 3) := by decide +kernel
theorem dTa_makeEmpty_13 : decode bTa_makeEmpty 13 = .ok (.return_, 1) := by decide +kernel
theorem dTa_keep_0 : decode bTa_keep 0 = .ok (.aload_n 0, 1) := by decide +kernel
theorem dTa_keep_1 : decode bTa_keep 1 = .ok (.iload_n 1, 1) := by decide +kernel
theorem dTa_keep_2 : decode bTa_keep 2 = .ok (.lload_n 2, 1) := by decide +kernel
theorem dTa_keep_3 : decode bTa_keep 3 = .ok (.invokevirtual 35, 3) := by decide +kernel
theorem dTa_keep_6 : decode bTa_keep 6 = .ok (.istore 4, 2) := by decide +kernel
theorem dTa_keep_8 : decode bTa_keep 8 = .ok (.aload_n 0, 1) := by decide +kernel
theorem dTa_keep_9 : decode bTa_keep 9 = .ok (.iload 4, 2) := by decide +kernel
theorem dTa_keep_11 : decode bTa_keep 11 = .ok (.iload_n 1, 1) := by decide +kernel
theorem dTa_keep_12 : decode bTa_keep 12 = .ok (.lload_n 2, 1) := by decide +kernel
theorem dTa_keep_13 : decode bTa_keep 13 = .ok (.invokevirtual 39, 3) := by decide +kernel
theorem dTa_keep_16 : decode bTa_keep 16 = .ok (.istore 5, 2) := by decide +kernel
theorem dTa_keep_18 : decode bTa_keep 18 = .ok (.iload 5, 2) := by decide +kernel
theorem dTa_keep_20 : decode bTa_keep 20 = .ok (.iconst (-1), 1) := by decide +kernel
theorem dTa_keep_21 : decode bTa_keep 21 = .ok (.if_icmp .ne 13, 3) := by decide +kernel
theorem dTa_keep_24 : decode bTa_keep 24 = .ok (.aload_n 0, 1) := by decide +kernel
theorem dTa_keep_25 : decode bTa_keep 25 = .ok (.getfield 25, 3) := by decide +kernel
theorem dTa_keep_28 : decode bTa_keep 28 = .ok (.sipush 2000, 3) := by decide +kernel
theorem dTa_keep_31 : decode bTa_keep 31 = .ok (.if_icmp .lt 6, 3) := by decide +kernel
theorem dTa_keep_34 : decode bTa_keep 34 = .ok (.iload 5, 2) := by decide +kernel
theorem dTa_keep_36 : decode bTa_keep 36 = .ok (.ireturn, 1) := by decide +kernel
theorem dTa_keep_37 : decode bTa_keep 37 = .ok (.aload_n 0, 1) := by decide +kernel
theorem dTa_keep_38 : decode bTa_keep 38 = .ok (.getfield 9, 3) := by decide +kernel
theorem dTa_keep_41 : decode bTa_keep 41 = .ok (.aload_n 0, 1) := by decide +kernel
theorem dTa_keep_42 : decode bTa_keep 42 = .ok (.getfield 25, 3) := by decide +kernel
theorem dTa_keep_45 : decode bTa_keep 45 = .ok (.iload_n 1, 1) := by decide +kernel
theorem dTa_keep_46 : decode bTa_keep 46 = .ok (.iastore, 1) := by decide +kernel
theorem dTa_keep_47 : decode bTa_keep 47 = .ok (.aload_n 0, 1) := by decide +kernel
theorem dTa_keep_48 : decode bTa_keep 48 = .ok (.getfield 15, 3) := by decide +kernel
theorem dTa_keep_51 : decode bTa_keep 51 = .ok (.aload_n 0, 1) := by decide +kernel
theorem dTa_keep_52 : decode bTa_keep 52 = .ok (.getfield 25, 3) := by decide +kernel
theorem dTa_keep_55 : decode bTa_keep 55 = .ok (.lload_n 2, 1) := by decide +kernel
theorem dTa_keep_56 : decode bTa_keep 56 = .ok (.lastore, 1) := by decide +kernel
theorem dTa_keep_57 : decode bTa_keep 57 = .ok (.aload_n 0, 1) := by decide +kernel
theorem dTa_keep_58 : decode bTa_keep 58 = .ok (.getfield 22, 3) := by decide +kernel
theorem dTa_keep_61 : decode bTa_keep 61 = .ok (.aload_n 0, 1) := by decide +kernel
theorem dTa_keep_62 : decode bTa_keep 62 = .ok (.getfield 25, 3) := by decide +kernel
theorem dTa_keep_65 : decode bTa_keep 65 = .ok (.aload_n 0, 1) := by decide +kernel
theorem dTa_keep_66 : decode bTa_keep 66 = .ok (.getfield 19, 3) := by decide +kernel
theorem dTa_keep_69 : decode bTa_keep 69 = .ok (.iload 4, 2) := by decide +kernel
theorem dTa_keep_71 : decode bTa_keep 71 = .ok (.iaload, 1) := by decide +kernel
theorem dTa_keep_72 : decode bTa_keep 72 = .ok (.iastore, 1) := by decide +kernel
theorem dTa_keep_73 : decode bTa_keep 73 = .ok (.aload_n 0, 1) := by decide +kernel
theorem dTa_keep_74 : decode bTa_keep 74 = .ok (.getfield 19, 3) := by decide +kernel
theorem dTa_keep_77 : decode bTa_keep 77 = .ok (.iload 4, 2) := by decide +kernel
theorem dTa_keep_79 : decode bTa_keep 79 = .ok (.aload_n 0, 1) := by decide +kernel
theorem dTa_keep_80 : decode bTa_keep 80 = .ok (.getfield 25, 3) := by decide +kernel
theorem dTa_keep_83 : decode bTa_keep 83 = .ok (.iastore, 1) := by decide +kernel
theorem dTa_keep_84 : decode bTa_keep 84 = .ok (.aload_n 0, 1) := by decide +kernel
theorem dTa_keep_85 : decode bTa_keep 85 = .ok (.dup, 1) := by decide +kernel
theorem dTa_keep_86 : decode bTa_keep 86 = .ok (.getfield 25, 3) := by decide +kernel
theorem dTa_keep_89 : decode bTa_keep 89 = .ok (.iconst 1, 1) := by decide +kernel
theorem dTa_keep_90 : decode bTa_keep 90 = .ok (.iadd, 1) := by decide +kernel
theorem dTa_keep_91 : decode bTa_keep 91 = .ok (.putfield 25, 3) := by decide +kernel
theorem dTa_keep_94 : decode bTa_keep 94 = .ok (.aload_n 0, 1) := by decide +kernel
theorem dTa_keep_95 : decode bTa_keep 95 = .ok (.getfield 25, 3) := by decide +kernel
theorem dTa_keep_98 : decode bTa_keep 98 = .ok (.iconst 1, 1) := by decide +kernel
theorem dTa_keep_99 : decode bTa_keep 99 = .ok (.isub, 1) := by decide +kernel
theorem dTa_keep_100 : decode bTa_keep 100 = .ok (.ireturn, 1) := by decide +kernel
theorem dTa_chainOf_0 : decode bTa_chainOf 0 = .ok (.lload_n 2, 1) := by decide +kernel
theorem dTa_chainOf_1 : decode bTa_chainOf 1 = .ok (.ldc2_w 43, 3) := by decide +kernel
theorem dTa_chainOf_4 : decode bTa_chainOf 4 = .ok (.lmul, 1) := by decide +kernel
theorem dTa_chainOf_5 : decode bTa_chainOf 5 = .ok (.iload_n 1, 1) := by decide +kernel
theorem dTa_chainOf_6 : decode bTa_chainOf 6 = .ok (.i2l, 1) := by decide +kernel
theorem dTa_chainOf_7 : decode bTa_chainOf 7 = .ok (.ldc2_w 45, 3) := by decide +kernel
theorem dTa_chainOf_10 : decode bTa_chainOf 10 = .ok (.lmul, 1) := by decide +kernel
theorem dTa_chainOf_11 : decode bTa_chainOf 11 = .ok (.ladd, 1) := by decide +kernel
theorem dTa_chainOf_12 : decode bTa_chainOf 12 = .ok (.bipush 54, 2) := by decide +kernel
theorem dTa_chainOf_14 : decode bTa_chainOf 14 = .ok (.lushr, 1) := by decide +kernel
theorem dTa_chainOf_15 : decode bTa_chainOf 15 = .ok (.l2i, 1) := by decide +kernel
theorem dTa_chainOf_16 : decode bTa_chainOf 16 = .ok (.ireturn, 1) := by decide +kernel
theorem dTa_findIn_0 : decode bTa_findIn 0 = .ok (.aload_n 0, 1) := by decide +kernel
theorem dTa_findIn_1 : decode bTa_findIn 1 = .ok (.getfield 19, 3) := by decide +kernel
theorem dTa_findIn_4 : decode bTa_findIn 4 = .ok (.iload_n 1, 1) := by decide +kernel
theorem dTa_findIn_5 : decode bTa_findIn 5 = .ok (.iaload, 1) := by decide +kernel
theorem dTa_findIn_6 : decode bTa_findIn 6 = .ok (.istore 5, 2) := by decide +kernel
theorem dTa_findIn_8 : decode bTa_findIn 8 = .ok (.aload_n 0, 1) := by decide +kernel
theorem dTa_findIn_9 : decode bTa_findIn 9 = .ok (.getfield 25, 3) := by decide +kernel
theorem dTa_findIn_12 : decode bTa_findIn 12 = .ok (.istore 6, 2) := by decide +kernel
theorem dTa_findIn_14 : decode bTa_findIn 14 = .ok (.iload 6, 2) := by decide +kernel
theorem dTa_findIn_16 : decode bTa_findIn 16 = .ok (.ifCond .le 49, 3) := by decide +kernel
theorem dTa_findIn_19 : decode bTa_findIn 19 = .ok (.iload 5, 2) := by decide +kernel
theorem dTa_findIn_21 : decode bTa_findIn 21 = .ok (.ifCond .lt 44, 3) := by decide +kernel
theorem dTa_findIn_24 : decode bTa_findIn 24 = .ok (.aload_n 0, 1) := by decide +kernel
theorem dTa_findIn_25 : decode bTa_findIn 25 = .ok (.getfield 9, 3) := by decide +kernel
theorem dTa_findIn_28 : decode bTa_findIn 28 = .ok (.iload 5, 2) := by decide +kernel
theorem dTa_findIn_30 : decode bTa_findIn 30 = .ok (.iaload, 1) := by decide +kernel
theorem dTa_findIn_31 : decode bTa_findIn 31 = .ok (.iload_n 2, 1) := by decide +kernel
theorem dTa_findIn_32 : decode bTa_findIn 32 = .ok (.if_icmp .ne 18, 3) := by decide +kernel
theorem dTa_findIn_35 : decode bTa_findIn 35 = .ok (.aload_n 0, 1) := by decide +kernel
theorem dTa_findIn_36 : decode bTa_findIn 36 = .ok (.getfield 15, 3) := by decide +kernel
theorem dTa_findIn_39 : decode bTa_findIn 39 = .ok (.iload 5, 2) := by decide +kernel
theorem dTa_findIn_41 : decode bTa_findIn 41 = .ok (.laload, 1) := by decide +kernel
theorem dTa_findIn_42 : decode bTa_findIn 42 = .ok (.lload_n 3, 1) := by decide +kernel
theorem dTa_findIn_43 : decode bTa_findIn 43 = .ok (.lcmp, 1) := by decide +kernel
theorem dTa_findIn_44 : decode bTa_findIn 44 = .ok (.ifCond .ne 6, 3) := by decide +kernel
theorem dTa_findIn_47 : decode bTa_findIn 47 = .ok (.iload 5, 2) := by decide +kernel
theorem dTa_findIn_49 : decode bTa_findIn 49 = .ok (.ireturn, 1) := by decide +kernel
theorem dTa_findIn_50 : decode bTa_findIn 50 = .ok (.aload_n 0, 1) := by decide +kernel
theorem dTa_findIn_51 : decode bTa_findIn 51 = .ok (.getfield 22, 3) := by decide +kernel
theorem dTa_findIn_54 : decode bTa_findIn 54 = .ok (.iload 5, 2) := by decide +kernel
theorem dTa_findIn_56 : decode bTa_findIn 56 = .ok (.iaload, 1) := by decide +kernel
theorem dTa_findIn_57 : decode bTa_findIn 57 = .ok (.istore 5, 2) := by decide +kernel
theorem dTa_findIn_59 : decode bTa_findIn 59 = .ok (.iinc 6 (-1), 3) := by decide +kernel
theorem dTa_findIn_62 : decode bTa_findIn 62 = .ok (.goto (-48), 3) := by decide +kernel
theorem dTa_findIn_65 : decode bTa_findIn 65 = .ok (.iconst (-1), 1) := by decide +kernel
theorem dTa_findIn_66 : decode bTa_findIn 66 = .ok (.ireturn, 1) := by decide +kernel
theorem dTa_find_0 : decode bTa_find 0 = .ok (.aload_n 0, 1) := by decide +kernel
theorem dTa_find_1 : decode bTa_find 1 = .ok (.aload_n 0, 1) := by decide +kernel
theorem dTa_find_2 : decode bTa_find 2 = .ok (.iload_n 1, 1) := by decide +kernel
theorem dTa_find_3 : decode bTa_find 3 = .ok (.lload_n 2, 1) := by decide +kernel
theorem dTa_find_4 : decode bTa_find 4 = .ok (.invokevirtual 35, 3) := by decide +kernel
theorem dTa_find_7 : decode bTa_find 7 = .ok (.iload_n 1, 1) := by decide +kernel
theorem dTa_find_8 : decode bTa_find 8 = .ok (.lload_n 2, 1) := by decide +kernel
theorem dTa_find_9 : decode bTa_find 9 = .ok (.invokevirtual 39, 3) := by decide +kernel
theorem dTa_find_12 : decode bTa_find 12 = .ok (.ireturn, 1) := by decide +kernel
end
section
/-! THE MEMORY OF A WALK: what stands at an address (sh: 0 .. 6 an object of that place in vcl; 10 int[], 11 long[], 12 boolean[], 13 Operation[], 14 Subject[], each with its length; 99 nothing that is known), its references, its ints, its longs -/
abbrev MS : Type := Nat → Nat × Nat
abbrev MR : Type := Nat → Nat → Option Nat
abbrev MI : Type := Nat → Nat → Int32
abbrev MJ : Type := Nat → Nat → Int64
def s2 {α : Type} (f : Nat → Nat → α) (a k : Nat) (v : α) : Nat → Nat → α := fun b j => if b = a ∧ j = k then v else f b j
theorem s2_self {α : Type} (f : Nat → Nat → α) (a k : Nat) (v : α) : s2 f a k v a k = v := by simp [s2]
theorem s2_ne {α : Type} {f : Nat → Nat → α} {a k b j : Nat} {v : α} (h : b ≠ a ∨ j ≠ k) : s2 f a k v b j = f b j := by
  unfold s2
  rw [if_neg]
  rintro ⟨h1, h2⟩
  rcases h with h | h
  · exact h h1
  · exact h h2
theorem s2_a {α : Type} {f : Nat → Nat → α} {a k b j : Nat} {v : α} (h : b ≠ a) : s2 f a k v b j = f b j := s2_ne (Or.inl h)
theorem s2_k {α : Type} {f : Nat → Nat → α} {a k b j : Nat} {v : α} (h : j ≠ k) : s2 f a k v b j = f b j := s2_ne (Or.inr h)
theorem s2_row {α : Type} (f : Nat → Nat → α) (a k : Nat) (v : α) : s2 f a k v a = fun j => if j = k then v else f a j := by
  funext j
  simp [s2]
theorem s2_off {α : Type} {f : Nat → Nat → α} {a k b : Nat} {v : α} (h : b ≠ a) : s2 f a k v b = f b := by
  funext j
  exact s2_a h
/-- the kinds of an object's fields: 0 an int, 1 a long, 2 a reference -/
def fkL (ci : Nat) : List Nat := match ci with
  | 0 => [0, 0, 0, 0, 0, 0, 0, 0]
  | 1 => [2, 2, 2, 2, 0, 0, 0, 0]
  | 2 => [1, 0, 0]
  | 3 => [2, 2, 2, 2, 2, 0, 0, 0, 0, 0, 0, 0, 1, 0, 0, 0, 0, 0]
  | 4 => [2, 2, 2, 2, 0]
  | 5 => [2, 2, 2, 2, 2, 2, 2, 2, 2, 0, 0, 0, 0, 0, 1]
  | _ => [0, 0, 2, 2, 2, 0, 2, 2, 2, 2, 2, 2, 2, 2, 2, 0, 2, 2, 2, 2, 2, 2, 2, 2, 2, 2, 2, 1, 0, 0, 0, 0, 2, 2, 2]
def fv (r : MR) (I : MI) (J : MJ) (a t k : Nat) : Value := match t with
  | 0 => .int (I a k)
  | 1 => .long (J a k)
  | _ => va_rf (r a k)
def fvs (ks : List Nat) (r : MR) (I : MI) (J : MJ) (a : Nat) : List Value := (List.range ks.length).map (fun k => fv r I J a (ks.getD k 0) k)
theorem fvs_len (ks : List Nat) (r : MR) (I : MI) (J : MJ) (a : Nat) : (fvs ks r I J a).length = ks.length := by simp [fvs]
theorem fvs_get {ks : List Nat} {k t : Nat} (h : ks[k]? = some t) (r : MR) (I : MI) (J : MJ) (a : Nat) : (fvs ks r I J a)[k]? = some (fv r I J a t k) := by
  have hk : k < ks.length := (List.getElem?_eq_some_iff.mp h).1
  simp only [fvs, List.getElem?_map, List.getElem?_range hk, Option.map_some]
  rw [List.getD_eq_getElem?_getD, h]
  rfl
theorem fvs_set {ks : List Nat} {r r2 : MR} {I I2 : MI} {J J2 : MJ} {a k t : Nat} (h : ks[k]? = some t) (hr : ∀ j, j ≠ k → r2 a j = r a j) (hI : ∀ j, j ≠ k → I2 a j = I a j) (hJ : ∀ j, j ≠ k → J2 a j = J a j) : (fvs ks r I J a).set k (fv r2 I2 J2 a t k) = fvs ks r2 I2 J2 a := by
  have hk : k < ks.length := (List.getElem?_eq_some_iff.mp h).1
  apply List.ext_getElem?
  intro j
  by_cases hj : j = k
  · subst hj
    rw [List.getElem?_set_self (by rw [fvs_len]; exact hk), fvs_get h]
  · rw [List.getElem?_set_ne (Ne.symm hj)]
    by_cases hl : j < ks.length
    · have he : ks[j]? = some ks[j] := List.getElem?_eq_getElem hl
      rw [fvs_get he, fvs_get he]
      have e1 := hr j hj
      have e2 := hI j hj
      have e3 := hJ j hj
      unfold fv
      split
      · rw [e2]
      · rw [e3]
      · rw [e1]
    · rw [List.getElem?_eq_none (by rw [fvs_len]; omega), List.getElem?_eq_none (by rw [fvs_len]; omega)]
theorem fvs_congr {ks : List Nat} {r r2 : MR} {I I2 : MI} {J J2 : MJ} {a : Nat} (hr : r2 a = r a) (hI : I2 a = I a) (hJ : J2 a = J a) : fvs ks r2 I2 J2 a = fvs ks r I J a := by
  unfold fvs fv
  rw [hr, hI, hJ]
def cE (D : va_G) (sh : MS) (r : MR) (I : MI) (J : MJ) (a : Nat) : va_E := match (sh a).1 with
  | 10 => .inl (D.1 100, (sh a).2, .inl (I a))
  | 11 => .inl (D.1 101, (sh a).2, .inr (.inl (J a)))
  | 12 => .inl (D.1 102, (sh a).2, .inl (I a))
  | 13 => .inl (D.1 103, (sh a).2, .inr (.inr (.inr (.inr (r a)))))
  | 14 => .inl (D.1 104, (sh a).2, .inr (.inr (.inr (.inr (r a)))))
  | ci => .inr (ci, fvs (fkL ci) r I J a)
theorem cE_i {D : va_G} {sh : MS} {r : MR} {I : MI} {J : MJ} {a n : Nat} (h : sh a = (10, n)) : cE D sh r I J a = .inl (D.1 100, n, .inl (I a)) := by simp [cE, h]
theorem cE_l {D : va_G} {sh : MS} {r : MR} {I : MI} {J : MJ} {a n : Nat} (h : sh a = (11, n)) : cE D sh r I J a = .inl (D.1 101, n, .inr (.inl (J a))) := by simp [cE, h]
theorem cE_z {D : va_G} {sh : MS} {r : MR} {I : MI} {J : MJ} {a n : Nat} (h : sh a = (12, n)) : cE D sh r I J a = .inl (D.1 102, n, .inl (I a)) := by simp [cE, h]
theorem cE_p {D : va_G} {sh : MS} {r : MR} {I : MI} {J : MJ} {a n : Nat} (h : sh a = (13, n)) : cE D sh r I J a = .inl (D.1 103, n, .inr (.inr (.inr (.inr (r a))))) := by simp [cE, h]
theorem cE_u {D : va_G} {sh : MS} {r : MR} {I : MI} {J : MJ} {a n : Nat} (h : sh a = (14, n)) : cE D sh r I J a = .inl (D.1 104, n, .inr (.inr (.inr (.inr (r a))))) := by simp [cE, h]
theorem cE_o {D : va_G} {sh : MS} {r : MR} {I : MI} {J : MJ} {a ci n : Nat} (h : sh a = (ci, n)) (hc : ci < 10) : cE D sh r I J a = .inr (ci, fvs (fkL ci) r I J a) := by
  unfold cE
  rw [h]
  match ci, hc with
  | 0, _ => rfl
  | 1, _ => rfl
  | 2, _ => rfl
  | 3, _ => rfl
  | 4, _ => rfl
  | 5, _ => rfl
  | 6, _ => rfl
  | 7, _ => rfl
  | 8, _ => rfl
  | 9, _ => rfl
theorem cE_congr {D : va_G} {sh sh2 : MS} {r r2 : MR} {I I2 : MI} {J J2 : MJ} {a : Nat} (hs : sh2 a = sh a) (hr : r2 a = r a) (hI : I2 a = I a) (hJ : J2 a = J a) : cE D sh2 r2 I2 J2 a = cE D sh r I J a := by
  unfold cE
  rw [hs, hr, hI, hJ]
  split <;> first | rfl | rw [fvs_congr hr hI hJ]
def Wo (D : va_G) (sh : MS) (r : MR) (I : MI) (J : MJ) (H : Heap) : Prop := ∀ a : Nat, (sh a).1 ≠ 99 → va_at D vcl (a, cE D sh r I J a) H
theorem Wo.at {D : va_G} {sh : MS} {r : MR} {I : MI} {J : MJ} {H : Heap} (h : Wo D sh r I J H) {a : Nat} (ha : (sh a).1 ≠ 99) : va_at D vcl (a, cE D sh r I J a) H := h a ha
/-- one cell changes -/
theorem Wo.set {D : va_G} {sh : MS} {r r2 : MR} {I I2 : MI} {J J2 : MJ} {H H1 : Heap} (h : Wo D sh r I J H) {a : Nat} (he : va_at D vcl (a, cE D sh r2 I2 J2 a) H1) (hr : ∀ b, b ≠ a → r2 b = r b) (hI : ∀ b, b ≠ a → I2 b = I b) (hJ : ∀ b, b ≠ a → J2 b = J b) (oq : ∀ q : Nat, q ≠ a → H1[q]? = H[q]?) : Wo D sh r2 I2 J2 H1 := by
  intro b hb
  by_cases hba : b = a
  · subst hba
    exact he
  · rw [cE_congr rfl (hr b hba) (hI b hba) (hJ b hba)]
    exact (h b hb).kept (oq b hba)
theorem Wo.lt {D : va_G} {sh : MS} {r : MR} {I : MI} {J : MJ} {H : Heap} (h : Wo D sh r I J H) {a : Nat} (ha : (sh a).1 ≠ 99) : a < H.size := (h a ha).lt
/-- a cell comes -/
theorem Wo.push {D : va_G} {sh sh2 : MS} {r r2 : MR} {I I2 : MI} {J J2 : MJ} {H H1 : Heap} (h : Wo D sh r I J H) {z : Nat} (hz : H.size = z) (he : va_at D vcl (z, cE D sh2 r2 I2 J2 z) H1) (hs : ∀ b, b ≠ z → sh2 b = sh b) (hr : ∀ b, b ≠ z → r2 b = r b) (hI : ∀ b, b ≠ z → I2 b = I b) (hJ : ∀ b, b ≠ z → J2 b = J b) (oq : ∀ q : Nat, q < z → H1[q]? = H[q]?) : Wo D sh2 r2 I2 J2 H1 := by
  intro b hb
  by_cases hba : b = z
  · subst hba
    exact he
  · have hb2 : (sh b).1 ≠ 99 := by rw [← hs b hba]; exact hb
    rw [cE_congr (hs b hba) (hr b hba) (hI b hba) (hJ b hba)]
    exact (h b hb2).kept (oq b (by rw [← hz]; exact h.lt hb2))
/-! the tables' part of it -/
def ktys (D : va_G) : List (ClassId × FieldType) := [(D.1 100, .int), (D.1 101, .long), (D.1 102, .boolean), (D.1 103, .object "LinearHistories$Operation"), (D.1 104, .object "LinearHistories$Subject")]
def knest : List Cond := [.methodLinkNest "LinearHistories" 31 ySp_init "LinearHistories", .methodLinkNest "LinearHistories$Space" 11 yTa_init "LinearHistories", .methodLinkNest "LinearHistories$Space" 20 ySt_init "LinearHistories", .methodLinkNest "LinearHistories$Subject" 19 ySp_init "LinearHistories", .methodLinkNest "LinearHistories$Subject" 34 yOp_init "LinearHistories"]
def KK (D : va_G) (U : State) : Prop := va_K D vcl (ktys D) U ∧ va_AO "LinearHistories$Operation" U ∧ va_AO "LinearHistories$Subject" U ∧ ∀ w ∈ knest, va_Nw w U
theorem KK.warm {D : va_G} {s U : State} (hW : s.WarmedH U.vm) (h : KK D s) : KK D U := by
  refine ⟨va_K.moved hW.alike h.1, va_AO.moved hW.alike h.2.1, va_AO.moved hW.alike h.2.2.1, fun w hw => ?_⟩
  have h4 := h.2.2.2 w hw
  simp only [knest, List.mem_cons, List.not_mem_nil, or_false] at hw
  rcases hw with rfl | rfl | rfl | rfl | rfl <;> exact va_Nw.warmM hW h4
theorem KK.same {D : va_G} {s U : State} (hv : s.vm = U.vm) (h : KK D s) : KK D U := by
  have ha : s.vm.Alike U.vm := by rw [hv]; exact Vm.Alike.refl _
  refine ⟨va_K.moved ha h.1, va_AO.moved ha h.2.1, va_AO.moved ha h.2.2.1, fun w hw => ?_⟩
  have h4 := h.2.2.2 w hw
  simp only [knest, List.mem_cons, List.not_mem_nil, or_false] at hw
  rcases hw with rfl | rfl | rfl | rfl | rfl <;> exact va_Nw.same rfl hv h4
/-- a class of vcl by its tables -/
def CF (ci : Nat) (C : String) (T : u_T) (N : Nat) (ty : Nat → FieldType) : Prop := vcl[ci]? = some (C, T, N) ∧ (∀ w ∈ u_ws C T N, w ∈ TB) ∧ (∀ k, k < N → parseFieldDescriptor (T k).2.2.1 = some (ty k)) ∧ (∀ a, a < N → ∀ b, b < N → a ≠ b → (T a).2.1 ≠ (T b).2.1) ∧ (fkL ci).length = N ∧ ci < 10
theorem cfOp : CF 0 ROp TOp 8 tyOp := ⟨rfl, inOp, tyOp_ok, nmOp, rfl, by decide⟩
theorem cfSp : CF 1 RSp TSp 8 tySp := ⟨rfl, inSp, tySp_ok, nmSp, rfl, by decide⟩
theorem cfSt : CF 2 RSt TSt 3 tySt := ⟨rfl, inSt, tySt_ok, nmSt, rfl, by decide⟩
theorem cfSu : CF 3 RSu TSu 18 tySu := ⟨rfl, inSu, tySu_ok, nmSu, rfl, by decide⟩
theorem cfTa : CF 4 RTa TTa 5 tyTa := ⟨rfl, inTa, tyTa_ok, nmTa, rfl, by decide⟩
theorem cfLH : CF 5 RLH TLH 15 tyLH := ⟨rfl, inLH, tyLH_ok, nmLH, rfl, by decide⟩
theorem cfMo : CF 6 RMo TMo 35 tyMo := ⟨rfl, inMo, tyMo_ok, nmMo, rfl, by decide⟩
/-! the locals by their places -/
def prs (lv : List (Option Value)) : List (Nat × Value) := (List.range lv.length).filterMap (fun i => (lv[i]?.join).map (fun v => (i, v)))
theorem mem_prs {lv : List (Option Value)} {i : Nat} {v : Value} : (i, v) ∈ prs lv ↔ lv[i]? = some (some v) := by
  unfold prs
  rw [List.mem_filterMap]
  constructor
  · rintro ⟨j, hj, h⟩
    cases hx : lv[j]? with
    | none => rw [hx] at h; cases h
    | some o =>
      cases o with
      | none => rw [hx] at h; cases h
      | some w =>
        rw [hx] at h
        have h2 : (j, w) = (i, v) := Option.some.inj h
        have e1 : j = i := congrArg Prod.fst h2
        have e2 : w = v := congrArg Prod.snd h2
        subst e1; subst e2
        exact hx
  · intro h
    refine ⟨i, List.mem_range.mpr (List.getElem?_eq_some_iff.mp h).1, ?_⟩
    rw [h]
    rfl
def lh (ls : Array Slot) (nL : Nat) (lv : List (Option Value)) : Prop := lv_has ls nL (prs lv)
theorem lh.at {ls : Array Slot} {nL : Nat} {lv : List (Option Value)} (h : lh ls nL lv) {i : Nat} {v : Value} (hi : lv[i]? = some (some v)) : ls[i]? = some (.val v) := h.2.2 (i, v) (mem_prs.mpr hi)
theorem lv_has.mono {ls : Array Slot} {nL : Nat} {l l2 : List (Nat × Value)} (h : lv_has ls nL l) (hs : ∀ q ∈ l2, q ∈ l) : lv_has ls nL l2 := ⟨h.1, h.2.1, fun q hq => h.2.2 q (hs q hq)⟩
/-- no long stands just before the place -/
def ok1 (lv : List (Option Value)) (i : Nat) : Bool := match i with
  | 0 => true
  | j + 1 => match lv[j]? with
    | some (some v) => v.category == 1
    | _ => true
theorem lh.set1 {ls : Array Slot} {nL i : Nat} {lv : List (Option Value)} {v : Value} (h : lv_has ls nL ((i, v) :: (prs lv).filter (fun q => !(q.1 == i) && !(q.1 + 1 == i && q.2.category == 2)))) (hok : ok1 lv i = true) : lh ls nL (lv.set i (some v)) := by
  refine h.mono fun q hq => ?_
  obtain ⟨j, w⟩ := q
  replace hq := mem_prs.mp hq
  by_cases hj : j = i
  · subst hj
    have hl : j < lv.length := by
      have := (List.getElem?_eq_some_iff.mp hq).1
      simpa using this
    rw [List.getElem?_set_self hl] at hq
    have : v = w := Option.some.inj (Option.some.inj hq)
    subst this
    exact List.mem_cons_self
  · rw [List.getElem?_set_ne (Ne.symm hj)] at hq
    refine List.mem_cons_of_mem _ (List.mem_filter.mpr ⟨mem_prs.mpr hq, ?_⟩)
    have h1 : (j == i) = false := by simpa using hj
    rw [h1]
    by_cases hj2 : j + 1 = i
    · subst hj2
      have hok : (match lv[j]? with
        | some (some v) => v.category == 1
        | _ => true) = true := hok
      rw [hq] at hok
      have hc : w.category = 1 := by simpa using hok
      simp [hc]
    · have h2 : (j + 1 == i) = false := by simpa using hj2
      simp [h2]
theorem lh.set2 {ls : Array Slot} {nL i : Nat} {lv : List (Option Value)} {v : Value} (h : lv_has ls nL ((i, v) :: (prs lv).filter (fun q => !(q.1 == i) && (!(q.1 == i + 1) && !(q.1 + 1 == i && q.2.category == 2))))) (hok : ok1 lv i = true) : lh ls nL ((lv.set i (some v)).set (i + 1) none) := by
  refine h.mono fun q hq => ?_
  obtain ⟨j, w⟩ := q
  replace hq := mem_prs.mp hq
  by_cases hj1 : j = i + 1
  · subst hj1
    have hl : i + 1 < (lv.set i (some v)).length := by
      have := (List.getElem?_eq_some_iff.mp hq).1
      simpa using this
    rw [List.getElem?_set_self hl] at hq
    cases hq
  · rw [List.getElem?_set_ne (Ne.symm hj1)] at hq
    by_cases hj : j = i
    · subst hj
      have hl : j < lv.length := by
        have := (List.getElem?_eq_some_iff.mp hq).1
        simpa using this
      rw [List.getElem?_set_self hl] at hq
      have : v = w := Option.some.inj (Option.some.inj hq)
      subst this
      exact List.mem_cons_self
    · rw [List.getElem?_set_ne (Ne.symm hj)] at hq
      refine List.mem_cons_of_mem _ (List.mem_filter.mpr ⟨mem_prs.mpr hq, ?_⟩)
      have h1 : (j == i) = false := by simpa using hj
      have h1' : (j == i + 1) = false := by simpa using hj1
      rw [h1, h1']
      by_cases hj2 : j + 1 = i
      · subst hj2
        have hok : (match lv[j]? with
          | some (some v) => v.category == 1
          | _ => true) = true := hok
        rw [hq] at hok
        have hc : w.category = 1 := by simpa using hok
        simp [hc]
      · have h2 : (j + 1 == i) = false := by simpa using hj2
        simp [h2]
/-- fewer known locals -/
theorem lh.less {ls : Array Slot} {nL : Nat} {lv lv2 : List (Option Value)} (h : lh ls nL lv) (hs : ∀ (i : Nat) (v : Value), lv2[i]? = some (some v) → lv[i]? = some (some v)) : lh ls nL lv2 := h.mono fun q hq => by
  obtain ⟨i, v⟩ := q
  exact mem_prs.mpr (hs i v (mem_prs.mp hq))
end
section
/-! THE JUDGEMENT V: the machine at pc with the locals lv, the stack st, the memory (sh, r, I, J), comes to an end with Q -/
abbrev KX : Type := Program × Launch × Env × Room × State × MethodId × Array Value × List Frame × Method × Code × Nat × va_G × (Nat → Prop) × (State → Prop)
abbrev kp (x : KX) : Program := x.1
abbrev kl (x : KX) : Launch := x.2.1
abbrev ke (x : KX) : Env := x.2.2.1
abbrev kR (x : KX) : Room := x.2.2.2.1
abbrev ks (x : KX) : State := x.2.2.2.2.1
abbrev km (x : KX) : MethodId := x.2.2.2.2.2.1
abbrev kar (x : KX) : Array Value := x.2.2.2.2.2.2.1
abbrev kbe (x : KX) : List Frame := x.2.2.2.2.2.2.2.1
abbrev kme (x : KX) : Method := x.2.2.2.2.2.2.2.2.1
abbrev kc (x : KX) : Code := x.2.2.2.2.2.2.2.2.2.1
abbrev kn (x : KX) : Nat := x.2.2.2.2.2.2.2.2.2.2.1
abbrev kD (x : KX) : va_G := x.2.2.2.2.2.2.2.2.2.2.2.1
abbrev kA (x : KX) : Nat → Prop := x.2.2.2.2.2.2.2.2.2.2.2.2.1
abbrev kQ (x : KX) : State → Prop := x.2.2.2.2.2.2.2.2.2.2.2.2.2
/-- shapes, references, the heap's size -/
abbrev GM : Type := MS × MR × Nat
def V (x : KX) (g : GM) (cells slots : Nat) (I : MI) (J : MJ) (pc : Nat) (lv : List (Option Value)) (st : List Value) : Prop :=
  ∀ (H : Heap) (locs : List Loc) (ls : Array Slot), H.size = g.2.2 → Wo (kD x) g.1 g.2.1 I J H → (∀ a : Nat, (g.1 a).1 ≠ 99 → kA x a) → va_S (kA x) (ks x).heap H locs → lh ls (kn x) lv → W (kp x) (kl x) (ke x) (kR x) (ks x) (km x) (kar x) (kbe x) (kme x) (kc x) H locs cells slots (kQ x) (F0 (km x) pc ls st)
/-- what is fixed of a method's walk: its code, its class, how many locals, its room -/
def Cx (x : KX) (cc : ByteArray) (own : String) (nL : Nat) (rm : Room) : Prop :=
  (kp x).tables.exec = Jvm.exec ∧ (kc x).code = cc ∧ (ks x).vm.findClass own = some (km x).cls ∧ (∀ w ∈ TB, w.before (kar x) (ks x) = true) ∧ KK (kD x) (ks x) ∧ (kc x).maxLocals = nL ∧ kn x = nL ∧ kR x = rm ∧ (kme x).locks = false ∧ (∀ q, (ks x).heap.size ≤ q → kA x q)
section VR
variable {x : KX} {cc : ByteArray} {own : String} {nL : Nat} {rm : Room} {g : GM} {cells slots : Nat} {I : MI} {J : MJ} {pc : Nat} {lv : List (Option Value)} {st : List Value}
theorem Cx.tb (C : Cx x cc own nL rm) {w : Cond} (h : w ∈ TB) : w.before (kar x) (ks x) = true := C.2.2.2.1 w h
theorem V.less {lv2 : List (Option Value)} (k : V x g cells slots I J pc lv2 st) (hs : ∀ (i : Nat) (v : Value), lv2[i]? = some (some v) → lv[i]? = some (some v)) : V x g cells slots I J pc lv st := fun H locs ls a b c d h => k H locs ls a b c d (h.less hs)
theorem V.widen {c2 s3 : Nat} (k : V x g c2 s3 I J pc lv st) (h1 : cells ≤ c2) (h2 : slots ≤ s3) : V x g cells slots I J pc lv st := fun H locs ls a b c d h => W.widen h1 h2 (k H locs ls a b c d h)
theorem v_iconst (C : Cx x cc own nL rm) {n : Int} (v : Int32) (d : decode cc pc = .ok (.iconst n, 1)) (hv : Int32.ofInt n = v) (k : V x g cells slots I J (pc + 1) lv (.int v :: st)) : V x g cells slots I J pc lv (st) := fun H locs ls a1 a2 a3 a4 a5 => lv_iconst C.1 C.2.1 d hv (k H locs ls a1 a2 a3 a4 a5)
theorem v_bipush (C : Cx x cc own nL rm) {n : Int} (v : Int32) (d : decode cc pc = .ok (.bipush n, 2)) (hv : (Int8.ofInt n).toInt32 = v) (k : V x g cells slots I J (pc + 2) lv (.int v :: st)) : V x g cells slots I J pc lv (st) := fun H locs ls a1 a2 a3 a4 a5 => lv_bipush C.1 C.2.1 d hv (k H locs ls a1 a2 a3 a4 a5)
theorem v_sipush (C : Cx x cc own nL rm) {n : Int} (v : Int32) (d : decode cc pc = .ok (.sipush n, 3)) (hv : (Int16.ofInt n).toInt32 = v) (k : V x g cells slots I J (pc + 3) lv (.int v :: st)) : V x g cells slots I J pc lv (st) := fun H locs ls a1 a2 a3 a4 a5 => lv_sipush C.1 C.2.1 d hv (k H locs ls a1 a2 a3 a4 a5)
theorem v_lconst (C : Cx x cc own nL rm) {n : Fin 2} (v : Int64) (d : decode cc pc = .ok (.lconst n, 1)) (hv : Int64.ofNat (n : Nat) = v) (k : V x g cells slots I J (pc + 1) lv (.long v :: st)) : V x g cells slots I J pc lv (st) := fun H locs ls a1 a2 a3 a4 a5 => lv_lconst C.1 C.2.1 d hv (k H locs ls a1 a2 a3 a4 a5)
theorem v_iload_n (C : Cx x cc own nL rm) {q : Fin 4} (i : Nat) {y : Int32} (d : decode cc pc = .ok (.iload_n q, 1)) (hi : (q : Nat) = i) (h : lv[i]? = some (some (.int y))) (k : V x g cells slots I J (pc + 1) lv (.int y :: st)) : V x g cells slots I J pc lv st := fun H locs ls a1 a2 a3 a4 a5 => lv_iload_n C.1 C.2.1 d hi (a5.at h) (k H locs ls a1 a2 a3 a4 a5)
theorem v_iload (C : Cx x cc own nL rm) {i : Nat} {y : Int32} (d : decode cc pc = .ok (.iload i, 2)) (h : lv[i]? = some (some (.int y))) (k : V x g cells slots I J (pc + 2) lv (.int y :: st)) : V x g cells slots I J pc lv st := fun H locs ls a1 a2 a3 a4 a5 => lv_iload C.1 C.2.1 d (a5.at h) (k H locs ls a1 a2 a3 a4 a5)
theorem v_lload_n (C : Cx x cc own nL rm) {q : Fin 4} (i : Nat) {y : Int64} (d : decode cc pc = .ok (.lload_n q, 1)) (hi : (q : Nat) = i) (h : lv[i]? = some (some (.long y))) (k : V x g cells slots I J (pc + 1) lv (.long y :: st)) : V x g cells slots I J pc lv st := fun H locs ls a1 a2 a3 a4 a5 => lv_lload_n C.1 C.2.1 d hi (a5.at h) (k H locs ls a1 a2 a3 a4 a5)
theorem v_lload (C : Cx x cc own nL rm) {i : Nat} {y : Int64} (d : decode cc pc = .ok (.lload i, 2)) (h : lv[i]? = some (some (.long y))) (k : V x g cells slots I J (pc + 2) lv (.long y :: st)) : V x g cells slots I J pc lv st := fun H locs ls a1 a2 a3 a4 a5 => lv_lload C.1 C.2.1 d (a5.at h) (k H locs ls a1 a2 a3 a4 a5)
theorem v_aload_n (C : Cx x cc own nL rm) {q : Fin 4} (i : Nat) {a : Nat} (d : decode cc pc = .ok (.aload_n q, 1)) (hi : (q : Nat) = i) (h : lv[i]? = some (some (.ref a))) (k : V x g cells slots I J (pc + 1) lv (.ref a :: st)) : V x g cells slots I J pc lv st := fun H locs ls a1 a2 a3 a4 a5 => lv_aload_n C.1 C.2.1 d hi (a5.at h) (k H locs ls a1 a2 a3 a4 a5)
theorem v_aload (C : Cx x cc own nL rm) {i : Nat} {a : Nat} (d : decode cc pc = .ok (.aload i, 2)) (h : lv[i]? = some (some (.ref a))) (k : V x g cells slots I J (pc + 2) lv (.ref a :: st)) : V x g cells slots I J pc lv st := fun H locs ls a1 a2 a3 a4 a5 => lv_aload C.1 C.2.1 d (a5.at h) (k H locs ls a1 a2 a3 a4 a5)
theorem v_istore_n (C : Cx x cc own nL rm) {q : Fin 4} (i : Nat) {y : Int32} (d : decode cc pc = .ok (.istore_n q, 1)) (hi : (q : Nat) = i) (hn : i < nL) (hok : ok1 lv i = true) (k : V x g cells slots I J (pc + 1) (lv.set i (some (.int y))) st) : V x g cells slots I J pc lv (.int y :: st) := fun H locs ls a1 a2 a3 a4 a5 => lv_istore_n C.1 C.2.1 d hi a5 (by rw [C.2.2.2.2.2.2.1]; exact hn) rfl (fun ls h => k H locs ls a1 a2 a3 a4 (lh.set1 h hok))
theorem v_istore (C : Cx x cc own nL rm) {i : Nat} {y : Int32} (d : decode cc pc = .ok (.istore i, 2)) (hn : i < nL) (hok : ok1 lv i = true) (k : V x g cells slots I J (pc + 2) (lv.set i (some (.int y))) st) : V x g cells slots I J pc lv (.int y :: st) := fun H locs ls a1 a2 a3 a4 a5 => lv_istore C.1 C.2.1 d a5 (by rw [C.2.2.2.2.2.2.1]; exact hn) rfl (fun ls h => k H locs ls a1 a2 a3 a4 (lh.set1 h hok))
theorem v_astore_n (C : Cx x cc own nL rm) {q : Fin 4} (i : Nat) {y : Nat} (d : decode cc pc = .ok (.astore_n q, 1)) (hi : (q : Nat) = i) (hn : i < nL) (hok : ok1 lv i = true) (k : V x g cells slots I J (pc + 1) (lv.set i (some (.ref y))) st) : V x g cells slots I J pc lv (.ref y :: st) := fun H locs ls a1 a2 a3 a4 a5 => lv_astore_n C.1 C.2.1 d hi a5 (by rw [C.2.2.2.2.2.2.1]; exact hn) rfl (fun ls h => k H locs ls a1 a2 a3 a4 (lh.set1 h hok))
theorem v_astore (C : Cx x cc own nL rm) {i : Nat} {y : Nat} (d : decode cc pc = .ok (.astore i, 2)) (hn : i < nL) (hok : ok1 lv i = true) (k : V x g cells slots I J (pc + 2) (lv.set i (some (.ref y))) st) : V x g cells slots I J pc lv (.ref y :: st) := fun H locs ls a1 a2 a3 a4 a5 => lv_astore C.1 C.2.1 d a5 (by rw [C.2.2.2.2.2.2.1]; exact hn) rfl (fun ls h => k H locs ls a1 a2 a3 a4 (lh.set1 h hok))
theorem v_lstore_n (C : Cx x cc own nL rm) {q : Fin 4} (i : Nat) {y : Int64} (d : decode cc pc = .ok (.lstore_n q, 1)) (hi : (q : Nat) = i) (hn : i + 1 < nL) (hok : ok1 lv i = true) (k : V x g cells slots I J (pc + 1) ((lv.set i (some (.long y))).set (i + 1) none) st) : V x g cells slots I J pc lv (.long y :: st) := fun H locs ls a1 a2 a3 a4 a5 => lv_lstore_n C.1 C.2.1 d hi a5 (by rw [C.2.2.2.2.2.2.1]; exact hn) rfl (fun ls h => k H locs ls a1 a2 a3 a4 (lh.set2 h hok))
theorem v_lstore (C : Cx x cc own nL rm) {i : Nat} {y : Int64} (d : decode cc pc = .ok (.lstore i, 2)) (hn : i + 1 < nL) (hok : ok1 lv i = true) (k : V x g cells slots I J (pc + 2) ((lv.set i (some (.long y))).set (i + 1) none) st) : V x g cells slots I J pc lv (.long y :: st) := fun H locs ls a1 a2 a3 a4 a5 => lv_lstore C.1 C.2.1 d a5 (by rw [C.2.2.2.2.2.2.1]; exact hn) rfl (fun ls h => k H locs ls a1 a2 a3 a4 (lh.set2 h hok))
theorem v_iinc (C : Cx x cc own nL rm) {i : Nat} {n : Int} {y : Int32} (v : Int32) (d : decode cc pc = .ok (.iinc i n, 3)) (h : lv[i]? = some (some (.int y))) (hv : y + Int32.ofInt n = v) (hn : i < nL) (hok : ok1 lv i = true) (k : V x g cells slots I J (pc + 3) (lv.set i (some (.int v))) st) : V x g cells slots I J pc lv st := fun H locs ls a1 a2 a3 a4 a5 => by
  obtain ⟨j, hj⟩ := List.getElem?_of_mem (mem_prs.mpr h)
  exact lv_iinc C.1 C.2.1 d a5 hj hv (by rw [C.2.2.2.2.2.2.1]; exact hn) rfl (fun ls h => k H locs ls a1 a2 a3 a4 (lh.set1 h hok))
theorem v_iadd (C : Cx x cc own nL rm) {a b : Int32} (d : decode cc pc = .ok (.iadd, 1))  (k : V x g cells slots I J (pc + 1) lv (.int (a + b) :: st)) : V x g cells slots I J pc lv (.int b :: .int a :: st) := fun H locs ls a1 a2 a3 a4 a5 => lv_iadd C.1 C.2.1 d (k H locs ls a1 a2 a3 a4 a5)
theorem v_isub (C : Cx x cc own nL rm) {a b : Int32} (d : decode cc pc = .ok (.isub, 1))  (k : V x g cells slots I J (pc + 1) lv (.int (a - b) :: st)) : V x g cells slots I J pc lv (.int b :: .int a :: st) := fun H locs ls a1 a2 a3 a4 a5 => lv_isub C.1 C.2.1 d (k H locs ls a1 a2 a3 a4 a5)
theorem v_imul (C : Cx x cc own nL rm) {a b : Int32} (d : decode cc pc = .ok (.imul, 1))  (k : V x g cells slots I J (pc + 1) lv (.int (a * b) :: st)) : V x g cells slots I J pc lv (.int b :: .int a :: st) := fun H locs ls a1 a2 a3 a4 a5 => lv_imul C.1 C.2.1 d (k H locs ls a1 a2 a3 a4 a5)
theorem v_iand (C : Cx x cc own nL rm) {a b : Int32} (d : decode cc pc = .ok (.iand, 1))  (k : V x g cells slots I J (pc + 1) lv (.int (a &&& b) :: st)) : V x g cells slots I J pc lv (.int b :: .int a :: st) := fun H locs ls a1 a2 a3 a4 a5 => lv_iand C.1 C.2.1 d (k H locs ls a1 a2 a3 a4 a5)
theorem v_ior (C : Cx x cc own nL rm) {a b : Int32} (d : decode cc pc = .ok (.ior, 1))  (k : V x g cells slots I J (pc + 1) lv (.int (a ||| b) :: st)) : V x g cells slots I J pc lv (.int b :: .int a :: st) := fun H locs ls a1 a2 a3 a4 a5 => lv_ior C.1 C.2.1 d (k H locs ls a1 a2 a3 a4 a5)
theorem v_ixor (C : Cx x cc own nL rm) {a b : Int32} (d : decode cc pc = .ok (.ixor, 1))  (k : V x g cells slots I J (pc + 1) lv (.int (a ^^^ b) :: st)) : V x g cells slots I J pc lv (.int b :: .int a :: st) := fun H locs ls a1 a2 a3 a4 a5 => lv_ixor C.1 C.2.1 d (k H locs ls a1 a2 a3 a4 a5)
theorem v_ladd (C : Cx x cc own nL rm) {a b : Int64} (d : decode cc pc = .ok (.ladd, 1))  (k : V x g cells slots I J (pc + 1) lv (.long (a + b) :: st)) : V x g cells slots I J pc lv (.long b :: .long a :: st) := fun H locs ls a1 a2 a3 a4 a5 => lv_ladd C.1 C.2.1 d (k H locs ls a1 a2 a3 a4 a5)
theorem v_lsub (C : Cx x cc own nL rm) {a b : Int64} (d : decode cc pc = .ok (.lsub, 1))  (k : V x g cells slots I J (pc + 1) lv (.long (a - b) :: st)) : V x g cells slots I J pc lv (.long b :: .long a :: st) := fun H locs ls a1 a2 a3 a4 a5 => lv_lsub C.1 C.2.1 d (k H locs ls a1 a2 a3 a4 a5)
theorem v_lmul (C : Cx x cc own nL rm) {a b : Int64} (d : decode cc pc = .ok (.lmul, 1))  (k : V x g cells slots I J (pc + 1) lv (.long (a * b) :: st)) : V x g cells slots I J pc lv (.long b :: .long a :: st) := fun H locs ls a1 a2 a3 a4 a5 => lv_lmul C.1 C.2.1 d (k H locs ls a1 a2 a3 a4 a5)
theorem v_land (C : Cx x cc own nL rm) {a b : Int64} (d : decode cc pc = .ok (.land, 1))  (k : V x g cells slots I J (pc + 1) lv (.long (a &&& b) :: st)) : V x g cells slots I J pc lv (.long b :: .long a :: st) := fun H locs ls a1 a2 a3 a4 a5 => lv_land C.1 C.2.1 d (k H locs ls a1 a2 a3 a4 a5)
theorem v_lor (C : Cx x cc own nL rm) {a b : Int64} (d : decode cc pc = .ok (.lor, 1))  (k : V x g cells slots I J (pc + 1) lv (.long (a ||| b) :: st)) : V x g cells slots I J pc lv (.long b :: .long a :: st) := fun H locs ls a1 a2 a3 a4 a5 => lv_lor C.1 C.2.1 d (k H locs ls a1 a2 a3 a4 a5)
theorem v_lxor (C : Cx x cc own nL rm) {a b : Int64} (d : decode cc pc = .ok (.lxor, 1))  (k : V x g cells slots I J (pc + 1) lv (.long (a ^^^ b) :: st)) : V x g cells slots I J pc lv (.long b :: .long a :: st) := fun H locs ls a1 a2 a3 a4 a5 => lv_lxor C.1 C.2.1 d (k H locs ls a1 a2 a3 a4 a5)
theorem v_ishl (C : Cx x cc own nL rm) {a b : Int32} (d : decode cc pc = .ok (.ishl, 1))  (k : V x g cells slots I J (pc + 1) lv (.int (a <<< (b &&& 31)) :: st)) : V x g cells slots I J pc lv (.int b :: .int a :: st) := fun H locs ls a1 a2 a3 a4 a5 => lv_ishl C.1 C.2.1 d (k H locs ls a1 a2 a3 a4 a5)
theorem v_ishr (C : Cx x cc own nL rm) {a b : Int32} (d : decode cc pc = .ok (.ishr, 1))  (k : V x g cells slots I J (pc + 1) lv (.int (a >>> (b &&& 31)) :: st)) : V x g cells slots I J pc lv (.int b :: .int a :: st) := fun H locs ls a1 a2 a3 a4 a5 => lv_ishr C.1 C.2.1 d (k H locs ls a1 a2 a3 a4 a5)
theorem v_iushr (C : Cx x cc own nL rm) {a b : Int32} (d : decode cc pc = .ok (.iushr, 1))  (k : V x g cells slots I J (pc + 1) lv (.int ((a.toUInt32 >>> (b.toUInt32 &&& Int32.toUInt32 31)).toInt32) :: st)) : V x g cells slots I J pc lv (.int b :: .int a :: st) := fun H locs ls a1 a2 a3 a4 a5 => lv_iushr C.1 C.2.1 d rfl (k H locs ls a1 a2 a3 a4 a5)
theorem v_lushr (C : Cx x cc own nL rm) {a : Int64} {b : Int32} (d : decode cc pc = .ok (.lushr, 1))  (k : V x g cells slots I J (pc + 1) lv (.long ((a.toUInt64 >>> (b.toInt64.toUInt64 &&& Int64.toUInt64 63)).toInt64) :: st)) : V x g cells slots I J pc lv (.int b :: .long a :: st) := fun H locs ls a1 a2 a3 a4 a5 => lv_lushr C.1 C.2.1 d rfl (k H locs ls a1 a2 a3 a4 a5)
theorem v_lshl (C : Cx x cc own nL rm) {a : Int64} {b : Int32} (d : decode cc pc = .ok (.lshl, 1))  (k : V x g cells slots I J (pc + 1) lv (.long (a <<< (b.toInt64 &&& 63)) :: st)) : V x g cells slots I J pc lv (.int b :: .long a :: st) := fun H locs ls a1 a2 a3 a4 a5 => lv_lshl C.1 C.2.1 d rfl (k H locs ls a1 a2 a3 a4 a5)
theorem v_i2l (C : Cx x cc own nL rm) {a : Int32} (d : decode cc pc = .ok (.i2l, 1))  (k : V x g cells slots I J (pc + 1) lv (.long a.toInt64 :: st)) : V x g cells slots I J pc lv (.int a :: st) := fun H locs ls a1 a2 a3 a4 a5 => lv_i2l C.1 C.2.1 d rfl (k H locs ls a1 a2 a3 a4 a5)
theorem v_l2i (C : Cx x cc own nL rm) {a : Int64} (d : decode cc pc = .ok (.l2i, 1))  (k : V x g cells slots I J (pc + 1) lv (.int a.toInt32 :: st)) : V x g cells slots I J pc lv (.long a :: st) := fun H locs ls a1 a2 a3 a4 a5 => lv_l2i C.1 C.2.1 d rfl (k H locs ls a1 a2 a3 a4 a5)
theorem v_dup (C : Cx x cc own nL rm) {v : Value} (d : decode cc pc = .ok (.dup, 1)) (hv : v.category = 1) (k : V x g cells slots I J (pc + 1) lv (v :: v :: st)) : V x g cells slots I J pc lv (v :: st) := fun H locs ls a1 a2 a3 a4 a5 => lv_dup C.1 C.2.1 d hv (k H locs ls a1 a2 a3 a4 a5)
theorem v_pop (C : Cx x cc own nL rm) {v : Value} (d : decode cc pc = .ok (.pop, 1)) (hv : v.category = 1) (k : V x g cells slots I J (pc + 1) lv (st)) : V x g cells slots I J pc lv (v :: st) := fun H locs ls a1 a2 a3 a4 a5 => lv_pop C.1 C.2.1 d hv (k H locs ls a1 a2 a3 a4 a5)
theorem v_dup_x1 (C : Cx x cc own nL rm) {v w : Value} (d : decode cc pc = .ok (.dup_x1, 1)) (hv : v.category = 1) (hw : w.category = 1) (k : V x g cells slots I J (pc + 1) lv (v :: w :: v :: st)) : V x g cells slots I J pc lv (v :: w :: st) := fun H locs ls a1 a2 a3 a4 a5 => lv_dup_x1 C.1 C.2.1 d hv hw (k H locs ls a1 a2 a3 a4 a5)
theorem v_dup_x2 (C : Cx x cc own nL rm) {v w z : Value} (d : decode cc pc = .ok (.dup_x2, 1)) (hv : v.category = 1) (hw : w.category = 1) (hz : z.category = 1) (k : V x g cells slots I J (pc + 1) lv (v :: w :: z :: v :: st)) : V x g cells slots I J pc lv (v :: w :: z :: st) := fun H locs ls a1 a2 a3 a4 a5 => lv_dup_x2 C.1 C.2.1 d hv hw hz (k H locs ls a1 a2 a3 a4 a5)
theorem v_dup2_11 (C : Cx x cc own nL rm) {v w : Value} (d : decode cc pc = .ok (.dup2, 1)) (hv : v.category = 1) (hw : w.category = 1) (k : V x g cells slots I J (pc + 1) lv (v :: w :: v :: w :: st)) : V x g cells slots I J pc lv (v :: w :: st) := fun H locs ls a1 a2 a3 a4 a5 => lv_dup2_11 C.1 C.2.1 d hv hw (k H locs ls a1 a2 a3 a4 a5)
theorem v_dup2_2 (C : Cx x cc own nL rm) {v : Value} (d : decode cc pc = .ok (.dup2, 1)) (hv : v.category = 2) (k : V x g cells slots I J (pc + 1) lv (v :: v :: st)) : V x g cells slots I J pc lv (v :: st) := fun H locs ls a1 a2 a3 a4 a5 => lv_dup2_2 C.1 C.2.1 d hv (k H locs ls a1 a2 a3 a4 a5)
theorem v_goto (C : Cx x cc own nL rm) {off : Int} (tgt : Nat) (d : decode cc pc = .ok (.goto off, 3)) (ht : (pc : Int) + off = (tgt : Int)) (k : V x g cells slots I J tgt lv st) : V x g cells slots I J pc lv st := fun H locs ls a1 a2 a3 a4 a5 => lv_goto C.1 C.2.1 d ht (k H locs ls a1 a2 a3 a4 a5)
theorem v_if_eq (C : Cx x cc own nL rm) {a : Int32} {off : Int} (tgt : Nat) (d : decode cc pc = .ok (.ifCond .eq off, 3)) (ht : (pc : Int) + off = (tgt : Int)) (kt : a = 0 → V x g cells slots I J tgt lv st) (kf : ¬ a = 0 → V x g cells slots I J (pc + 3) lv st) : V x g cells slots I J pc lv (.int a :: st) := fun H locs ls a1 a2 a3 a4 a5 => lv_if_eq C.1 C.2.1 d ht (fun h => kt h H locs ls a1 a2 a3 a4 a5) (fun h => kf h H locs ls a1 a2 a3 a4 a5)
theorem v_if_ne (C : Cx x cc own nL rm) {a : Int32} {off : Int} (tgt : Nat) (d : decode cc pc = .ok (.ifCond .ne off, 3)) (ht : (pc : Int) + off = (tgt : Int)) (kt : ¬ a = 0 → V x g cells slots I J tgt lv st) (kf : a = 0 → V x g cells slots I J (pc + 3) lv st) : V x g cells slots I J pc lv (.int a :: st) := fun H locs ls a1 a2 a3 a4 a5 => lv_if_ne C.1 C.2.1 d ht (fun h => kt h H locs ls a1 a2 a3 a4 a5) (fun h => kf h H locs ls a1 a2 a3 a4 a5)
theorem v_if_lt (C : Cx x cc own nL rm) {a : Int32} {off : Int} (tgt : Nat) (d : decode cc pc = .ok (.ifCond .lt off, 3)) (ht : (pc : Int) + off = (tgt : Int)) (kt : a < 0 → V x g cells slots I J tgt lv st) (kf : ¬ a < 0 → V x g cells slots I J (pc + 3) lv st) : V x g cells slots I J pc lv (.int a :: st) := fun H locs ls a1 a2 a3 a4 a5 => lv_if_lt C.1 C.2.1 d ht (fun h => kt h H locs ls a1 a2 a3 a4 a5) (fun h => kf h H locs ls a1 a2 a3 a4 a5)
theorem v_if_ge (C : Cx x cc own nL rm) {a : Int32} {off : Int} (tgt : Nat) (d : decode cc pc = .ok (.ifCond .ge off, 3)) (ht : (pc : Int) + off = (tgt : Int)) (kt : 0 ≤ a → V x g cells slots I J tgt lv st) (kf : ¬ 0 ≤ a → V x g cells slots I J (pc + 3) lv st) : V x g cells slots I J pc lv (.int a :: st) := fun H locs ls a1 a2 a3 a4 a5 => lv_if_ge C.1 C.2.1 d ht (fun h => kt h H locs ls a1 a2 a3 a4 a5) (fun h => kf h H locs ls a1 a2 a3 a4 a5)
theorem v_if_gt (C : Cx x cc own nL rm) {a : Int32} {off : Int} (tgt : Nat) (d : decode cc pc = .ok (.ifCond .gt off, 3)) (ht : (pc : Int) + off = (tgt : Int)) (kt : 0 < a → V x g cells slots I J tgt lv st) (kf : ¬ 0 < a → V x g cells slots I J (pc + 3) lv st) : V x g cells slots I J pc lv (.int a :: st) := fun H locs ls a1 a2 a3 a4 a5 => lv_if_gt C.1 C.2.1 d ht (fun h => kt h H locs ls a1 a2 a3 a4 a5) (fun h => kf h H locs ls a1 a2 a3 a4 a5)
theorem v_if_le (C : Cx x cc own nL rm) {a : Int32} {off : Int} (tgt : Nat) (d : decode cc pc = .ok (.ifCond .le off, 3)) (ht : (pc : Int) + off = (tgt : Int)) (kt : a ≤ 0 → V x g cells slots I J tgt lv st) (kf : ¬ a ≤ 0 → V x g cells slots I J (pc + 3) lv st) : V x g cells slots I J pc lv (.int a :: st) := fun H locs ls a1 a2 a3 a4 a5 => lv_if_le C.1 C.2.1 d ht (fun h => kt h H locs ls a1 a2 a3 a4 a5) (fun h => kf h H locs ls a1 a2 a3 a4 a5)
theorem v_icmp_eq (C : Cx x cc own nL rm) {a b : Int32} {off : Int} (tgt : Nat) (d : decode cc pc = .ok (.if_icmp .eq off, 3)) (ht : (pc : Int) + off = (tgt : Int)) (kt : a = b → V x g cells slots I J tgt lv st) (kf : ¬ a = b → V x g cells slots I J (pc + 3) lv st) : V x g cells slots I J pc lv (.int b :: .int a :: st) := fun H locs ls a1 a2 a3 a4 a5 => lv_icmp_eq C.1 C.2.1 d ht (fun h => kt h H locs ls a1 a2 a3 a4 a5) (fun h => kf h H locs ls a1 a2 a3 a4 a5)
theorem v_icmp_ne (C : Cx x cc own nL rm) {a b : Int32} {off : Int} (tgt : Nat) (d : decode cc pc = .ok (.if_icmp .ne off, 3)) (ht : (pc : Int) + off = (tgt : Int)) (kt : ¬ a = b → V x g cells slots I J tgt lv st) (kf : a = b → V x g cells slots I J (pc + 3) lv st) : V x g cells slots I J pc lv (.int b :: .int a :: st) := fun H locs ls a1 a2 a3 a4 a5 => lv_icmp_ne C.1 C.2.1 d ht (fun h => kt h H locs ls a1 a2 a3 a4 a5) (fun h => kf h H locs ls a1 a2 a3 a4 a5)
theorem v_icmp_lt (C : Cx x cc own nL rm) {a b : Int32} {off : Int} (tgt : Nat) (d : decode cc pc = .ok (.if_icmp .lt off, 3)) (ht : (pc : Int) + off = (tgt : Int)) (kt : a < b → V x g cells slots I J tgt lv st) (kf : ¬ a < b → V x g cells slots I J (pc + 3) lv st) : V x g cells slots I J pc lv (.int b :: .int a :: st) := fun H locs ls a1 a2 a3 a4 a5 => lv_icmp_lt C.1 C.2.1 d ht (fun h => kt h H locs ls a1 a2 a3 a4 a5) (fun h => kf h H locs ls a1 a2 a3 a4 a5)
theorem v_icmp_ge (C : Cx x cc own nL rm) {a b : Int32} {off : Int} (tgt : Nat) (d : decode cc pc = .ok (.if_icmp .ge off, 3)) (ht : (pc : Int) + off = (tgt : Int)) (kt : b ≤ a → V x g cells slots I J tgt lv st) (kf : ¬ b ≤ a → V x g cells slots I J (pc + 3) lv st) : V x g cells slots I J pc lv (.int b :: .int a :: st) := fun H locs ls a1 a2 a3 a4 a5 => lv_icmp_ge C.1 C.2.1 d ht (fun h => kt h H locs ls a1 a2 a3 a4 a5) (fun h => kf h H locs ls a1 a2 a3 a4 a5)
theorem v_icmp_gt (C : Cx x cc own nL rm) {a b : Int32} {off : Int} (tgt : Nat) (d : decode cc pc = .ok (.if_icmp .gt off, 3)) (ht : (pc : Int) + off = (tgt : Int)) (kt : b < a → V x g cells slots I J tgt lv st) (kf : ¬ b < a → V x g cells slots I J (pc + 3) lv st) : V x g cells slots I J pc lv (.int b :: .int a :: st) := fun H locs ls a1 a2 a3 a4 a5 => lv_icmp_gt C.1 C.2.1 d ht (fun h => kt h H locs ls a1 a2 a3 a4 a5) (fun h => kf h H locs ls a1 a2 a3 a4 a5)
theorem v_icmp_le (C : Cx x cc own nL rm) {a b : Int32} {off : Int} (tgt : Nat) (d : decode cc pc = .ok (.if_icmp .le off, 3)) (ht : (pc : Int) + off = (tgt : Int)) (kt : a ≤ b → V x g cells slots I J tgt lv st) (kf : ¬ a ≤ b → V x g cells slots I J (pc + 3) lv st) : V x g cells slots I J pc lv (.int b :: .int a :: st) := fun H locs ls a1 a2 a3 a4 a5 => lv_icmp_le C.1 C.2.1 d ht (fun h => kt h H locs ls a1 a2 a3 a4 a5) (fun h => kf h H locs ls a1 a2 a3 a4 a5)
theorem v_ifnull (C : Cx x cc own nL rm) {off : Int} {a : Nat} (d : decode cc pc = .ok (.ifnull off, 3)) (k : V x g cells slots I J (pc + 3) lv st) : V x g cells slots I J pc lv (.ref a :: st) := fun H locs ls a1 a2 a3 a4 a5 => lv_ifnull C.1 C.2.1 d (k H locs ls a1 a2 a3 a4 a5)
theorem v_ifnonnull (C : Cx x cc own nL rm) {off : Int} {a : Nat} (tgt : Nat) (d : decode cc pc = .ok (.ifnonnull off, 3)) (ht : (pc : Int) + off = (tgt : Int)) (k : V x g cells slots I J tgt lv st) : V x g cells slots I J pc lv (.ref a :: st) := fun H locs ls a1 a2 a3 a4 a5 => lv_ifnonnull C.1 C.2.1 d ht (k H locs ls a1 a2 a3 a4 a5)
theorem v_ifnullN (C : Cx x cc own nL rm) {off : Int} (tgt : Nat) (d : decode cc pc = .ok (.ifnull off, 3)) (ht : (pc : Int) + off = (tgt : Int)) (k : V x g cells slots I J tgt lv st) : V x g cells slots I J pc lv (.null :: st) := fun H locs ls a1 a2 a3 a4 a5 => lv_ifnullN C.1 C.2.1 d ht (k H locs ls a1 a2 a3 a4 a5)
theorem v_ifnonnullN (C : Cx x cc own nL rm) {off : Int} (d : decode cc pc = .ok (.ifnonnull off, 3)) (k : V x g cells slots I J (pc + 3) lv st) : V x g cells slots I J pc lv (.null :: st) := fun H locs ls a1 a2 a3 a4 a5 => lv_ifnonnullN C.1 C.2.1 d (k H locs ls a1 a2 a3 a4 a5)
theorem v_lcmp (C : Cx x cc own nL rm) {a b : Int64} (d : decode cc pc = .ok (.lcmp, 1)) (k : V x g cells slots I J (pc + 1) lv (.int (lg_cmp a b) :: st)) : V x g cells slots I J pc lv (.long b :: .long a :: st) := fun H locs ls a1 a2 a3 a4 a5 => W.lcmp C.1 C.2.1 d (k H locs ls a1 a2 a3 a4 a5)
theorem v_ldc (C : Cx x cc own nL rm) {index : Nat} {v : Int32} (hw : Cond.constant own index v ∈ TB) (d : decode cc pc = .ok (.ldc index, 2)) (k : V x g cells slots I J (pc + 2) lv (.int v :: st)) : V x g cells slots I J pc lv st := fun H locs ls a1 a2 a3 a4 a5 => lv_ldc C.1 C.2.1 C.2.2.1 (C.tb hw) d (k H locs ls a1 a2 a3 a4 a5)
theorem v_ldc2 (C : Cx x cc own nL rm) {index : Nat} {v : Int64} (hw : Cond.constantLong own index v ∈ TB) (d : decode cc pc = .ok (.ldc2_w index, 3)) (k : V x g cells slots I J (pc + 3) lv (.long v :: st)) : V x g cells slots I J pc lv st := fun H locs ls a1 a2 a3 a4 a5 => lv_ldc2 C.1 C.2.1 C.2.2.1 (C.tb hw) d (k H locs ls a1 a2 a3 a4 a5)
theorem v_lookup (C : Cx x cc own nL rm) {dflt : Int} {ps : Array (Int × Int)} {len : Nat} {a : Int32} {off : Int} (tgt : Nat) (d : decode cc pc = .ok (.lookupswitch dflt ps, len)) (hp : (ps.toList.zip (ps.toList.drop 1)).all (fun (a, next) => a.1 < next.1) = true) (ho : Op.lookupswitch.offset ps.toList dflt a.toInt = off) (ht : (pc : Int) + off = (tgt : Int)) (k : V x g cells slots I J tgt lv st) : V x g cells slots I J pc lv (.int a :: st) := fun H locs ls a1 a2 a3 a4 a5 => lv_lookup C.1 C.2.1 d hp ho ht (k H locs ls a1 a2 a3 a4 a5)
theorem v_tableOut (C : Cx x cc own nL rm) {dflt lo hi : Int} {offs : Array Int} {len : Nat} {a : Int32} (tgt : Nat) (d : decode cc pc = .ok (.tableswitch dflt lo hi offs, len)) (h : a.toInt < lo ∨ hi < a.toInt) (ht : (pc : Int) + dflt = (tgt : Int)) (k : V x g cells slots I J tgt lv st) : V x g cells slots I J pc lv (.int a :: st) := fun H locs ls a1 a2 a3 a4 a5 => lv_tableOut C.1 C.2.1 d h ht (k H locs ls a1 a2 a3 a4 a5)
theorem v_tableIn (C : Cx x cc own nL rm) {dflt lo hi : Int} {offs : Array Int} {len : Nat} {a : Int32} {off : Int} (tgt : Nat) (d : decode cc pc = .ok (.tableswitch dflt lo hi offs, len)) (h1 : ¬ a.toInt < lo) (h2 : ¬ hi < a.toInt) (ho : offs[(a.toInt - lo).toNat]? = some off) (ht : (pc : Int) + off = (tgt : Int)) (k : V x g cells slots I J tgt lv st) : V x g cells slots I J pc lv (.int a :: st) := fun H locs ls a1 a2 a3 a4 a5 => lv_tableIn C.1 C.2.1 d h1 h2 ho ht (k H locs ls a1 a2 a3 a4 a5)
/-! fields -/
theorem v_get (C : Cx x cc own nL rm) {ci N n a k t idx : Nat} {Cn : String} {T : u_T} {ty : Nat → FieldType} (F : CF ci Cn T N ty) (hs : g.1 a = (ci, n)) (hk : (fkL ci)[k]? = some t) (hw : Cond.fieldLink own idx (T k).1 (T k).2.1 (T k).2.2.1 ∈ TB) (d : decode cc pc = .ok (.getfield idx, 3)) (kk : V x g cells slots I J (pc + 3) lv (fv g.2.1 I J a t k :: st)) : V x g cells slots I J pc lv (.ref a :: st) := fun H locs ls a1 a2 a3 a4 a5 => by
  obtain ⟨f1, f2, f3, f4, f5, f6⟩ := F
  have hkN : k < N := by rw [← f5]; exact (List.getElem?_eq_some_iff.mp hk).1
  have hE := a2 a (by rw [hs]; show ci ≠ 99; omega)
  rw [cE_o hs f6] at hE
  have hP : va_P (kD x) vcl [(a, .inr (ci, fvs (fkL ci) g.2.1 I J a))] H := fun q y hy => by
    have hq : q = 0 := by
      have := (List.getElem?_eq_some_iff.mp hy).1
      simp at this
      exact this
    subst hq
    cases hy
    exact hE
  exact va_get C.1 C.2.1 C.2.2.2.1 f2 C.2.2.1 C.2.2.2.2.1.1 hP 0 rfl f1 k hkN (C.tb hw) (fun _ h => h) (fvs_get hk _ _ _ _) d (kk H locs ls a1 a2 a3 a4 a5)
theorem v_geti (C : Cx x cc own nL rm) {ci N n a k idx : Nat} {Cn : String} {T : u_T} {ty : Nat → FieldType} (F : CF ci Cn T N ty) (hs : g.1 a = (ci, n)) (hk : (fkL ci)[k]? = some 0) (hw : Cond.fieldLink own idx (T k).1 (T k).2.1 (T k).2.2.1 ∈ TB) (d : decode cc pc = .ok (.getfield idx, 3)) (kk : V x g cells slots I J (pc + 3) lv (.int (I a k) :: st)) : V x g cells slots I J pc lv (.ref a :: st) := v_get C F hs hk hw d kk
theorem v_getl (C : Cx x cc own nL rm) {ci N n a k idx : Nat} {Cn : String} {T : u_T} {ty : Nat → FieldType} (F : CF ci Cn T N ty) (hs : g.1 a = (ci, n)) (hk : (fkL ci)[k]? = some 1) (hw : Cond.fieldLink own idx (T k).1 (T k).2.1 (T k).2.2.1 ∈ TB) (d : decode cc pc = .ok (.getfield idx, 3)) (kk : V x g cells slots I J (pc + 3) lv (.long (J a k) :: st)) : V x g cells slots I J pc lv (.ref a :: st) := v_get C F hs hk hw d kk
theorem v_getr (C : Cx x cc own nL rm) {ci N n a k idx b : Nat} {Cn : String} {T : u_T} {ty : Nat → FieldType} (F : CF ci Cn T N ty) (hs : g.1 a = (ci, n)) (hk : (fkL ci)[k]? = some 2) (hr : g.2.1 a k = some b) (hw : Cond.fieldLink own idx (T k).1 (T k).2.1 (T k).2.2.1 ∈ TB) (d : decode cc pc = .ok (.getfield idx, 3)) (kk : V x g cells slots I J (pc + 3) lv (.ref b :: st)) : V x g cells slots I J pc lv (.ref a :: st) := by
  refine v_get C F hs hk hw d ?_
  show V x g cells slots I J (pc + 3) lv (va_rf (g.2.1 a k) :: st)
  rw [hr]
  exact kk
theorem put_core (C : Cx x cc own nL rm) {ci N n a k t idx : Nat} {Cn : String} {T : u_T} {ty : Nat → FieldType} {v : Value} {I2 : MI} {J2 : MJ} {r2 : MR} (F : CF ci Cn T N ty) (hs : g.1 a = (ci, n)) (hk : (fkL ci)[k]? = some t) (hw : Cond.fieldLink own idx (T k).1 (T k).2.1 (T k).2.2.1 ∈ TB) (hfin : (T k).2.2.2 = false ∨ ((T k).2.2.2 = true ∧ (kme x).name = "<init>" ∧ (T k).1 = own)) (hv : v = fv r2 I2 J2 a t k) (hn : narrow (ty k) v = v) (hfit : fits (ty k) v = true)
    (hr1 : ∀ b, b ≠ a → r2 b = g.2.1 b) (hI1 : ∀ b, b ≠ a → I2 b = I b) (hJ1 : ∀ b, b ≠ a → J2 b = J b) (hr2 : ∀ j, j ≠ k → r2 a j = g.2.1 a j) (hI3 : ∀ j, j ≠ k → I2 a j = I a j) (hJ3 : ∀ j, j ≠ k → J2 a j = J a j)
    (d : decode cc pc = .ok (.putfield idx, 3)) (kk : V x (g.1, r2, g.2.2) cells slots I2 J2 (pc + 3) lv st) : V x g cells slots I J pc lv (v :: .ref a :: st) := fun H locs ls a1 a2 a3 a4 a5 => by
  obtain ⟨f1, f2, f3, f4, f5, f6⟩ := F
  have hkN : k < N := by rw [← f5]; exact (List.getElem?_eq_some_iff.mp hk).1
  have ha99 : (g.1 a).1 ≠ 99 := by rw [hs]; show ci ≠ 99; omega
  have hE := a2 a ha99
  rw [cE_o hs f6] at hE
  have hts := C.2.2.2.1
  have hK := C.2.2.2.2.1.1
  have hap := va_apart (own := own) hts f2 ty f3 f4 hK f1
  obtain ⟨r, h1, cell, q1, q2, q3, q4⟩ := hE
  have hr : r = (Cn, T, N) := Option.some.inj (h1.symm.trans f1)
  subst hr
  obtain ⟨hS, hfc, kC, hkC, hkind⟩ := hK.1 ci _ f1
  obtain ⟨cf, kf, fi, f, hi, hsl⟩ := hS k hkN
  have hlay := hts _ (f2 _ (u_in_lay hkN))
  have hst := (u_facts hfc hkC (u_lays hts f2 hkN) hi).1
  have hd : parseFieldDescriptor (T k).2.2.1 = some (ty k) := f3 k hkN
  have fin : ∀ (H' : Heap), H'[a]? = some (cell.setSlot ((kD x).2 ci k) v) → H'.size = H.size → (∀ q : Nat, q ≠ a → H'[q]? = H[q]?) → W (kp x) (kl x) (ke x) (kR x) (ks x) (km x) (kar x) (kbe x) (kme x) (kc x) H' (locs ++ [⟨a, (kD x).2 ci k⟩]) cells slots (kQ x) (F0 (km x) (pc + 3) ls st) := fun H' e1 e2 e3 => by
    refine kk H' _ ls (by rw [e2]; exact a1) (Wo.set a2 ?_ hr1 hI1 hJ1 e3) a3 (a4.put e2 e3 (a3 a ha99)) a5
    rw [cE_o hs f6, ← fvs_set hk hr2 hI3 hJ3, ← hv]
    exact ⟨_, f1, t_OB.to (V := updV (vp_V (fvs (fkL ci) g.2.1 I J a)) k v) ⟨_, e1, q2, q3, t_set q4 hap hkN v⟩ (fun j _ => vp_updV_set (by rw [fvs_len, f5]; exact hkN) v j)⟩
  rcases hfin with hfin | ⟨hfin, hin2, hdecl⟩
  · unfold u_lay at hlay
    rw [if_neg (by rw [hfin]; decide)] at hlay
    have h6 := u_store hfc hkC hkind hlay hi hd hn hfit
    refine W.putK C.1 C.2.1 (f := f) ⟨C.2.2.1, C.tb hw, ⟨_, _, _, hi⟩, hst⟩ (by rw [q2]; exact h6) q1 q3 (by rw [hsl]; exact k2_hasslot (q4 k hkN)) rfl rfl d fun H' e1 e2 e3 => ?_
    rw [hsl] at e1 ⊢
    exact fin H' e1 e2 e3
  · unfold u_lay at hlay
    rw [if_pos hfin] at hlay
    have hcf : (km x).cls = cf := by
      obtain ⟨_, _, c', _, _, _, -, -, hf', -, -, -, hown2, -⟩ := Cond.laysFinal_spec hlay
      have e1 : c' = cf := by have := hi.symm.trans hf'; simp at this; exact this.1.symm
      rw [hdecl] at hown2
      rw [← e1]; exact Option.some.inj (C.2.2.1.symm.trans hown2)
    have h6 := u_fits hfc hkC hkind (Or.inr hlay) hi hd hn hfit
    refine W.putFinK C.1 C.2.1 C.2.2.1 (C.tb hw) hi hst hcf hin2 (by rw [q2]; exact h6) q1 q3 (by rw [hsl]; exact k2_hasslot (q4 k hkN)) rfl rfl d fun H' e1 e2 e3 => ?_
    rw [hsl] at e1 ⊢
    exact fin H' e1 e2 e3
theorem v_puti (C : Cx x cc own nL rm) {ci N n a k idx : Nat} {Cn : String} {T : u_T} {ty : Nat → FieldType} {v : Int32} (F : CF ci Cn T N ty) (hs : g.1 a = (ci, n)) (hk : (fkL ci)[k]? = some 0) (hw : Cond.fieldLink own idx (T k).1 (T k).2.1 (T k).2.2.1 ∈ TB) (hfin : (T k).2.2.2 = false) (hn : narrow (ty k) (.int v) = .int v) (hfit : fits (ty k) (.int v) = true)
    (d : decode cc pc = .ok (.putfield idx, 3)) (kk : V x g cells slots (s2 I a k v) J (pc + 3) lv st) : V x g cells slots I J pc lv (.int v :: .ref a :: st) :=
  put_core C (r2 := g.2.1) (I2 := s2 I a k v) (J2 := J) F hs hk hw (Or.inl hfin) (by show Value.int v = .int _; rw [s2_self]) hn hfit (fun _ _ => rfl) (fun _ h => s2_off h) (fun _ _ => rfl) (fun _ _ => rfl) (fun _ h => s2_k h) (fun _ _ => rfl) d kk
theorem v_putl (C : Cx x cc own nL rm) {ci N n a k idx : Nat} {Cn : String} {T : u_T} {ty : Nat → FieldType} {v : Int64} (F : CF ci Cn T N ty) (hs : g.1 a = (ci, n)) (hk : (fkL ci)[k]? = some 1) (hw : Cond.fieldLink own idx (T k).1 (T k).2.1 (T k).2.2.1 ∈ TB) (hfin : (T k).2.2.2 = false) (hn : narrow (ty k) (.long v) = .long v) (hfit : fits (ty k) (.long v) = true)
    (d : decode cc pc = .ok (.putfield idx, 3)) (kk : V x g cells slots I (s2 J a k v) (pc + 3) lv st) : V x g cells slots I J pc lv (.long v :: .ref a :: st) :=
  put_core C (r2 := g.2.1) (I2 := I) (J2 := s2 J a k v) F hs hk hw (Or.inl hfin) (by show Value.long v = .long _; rw [s2_self]) hn hfit (fun _ _ => rfl) (fun _ _ => rfl) (fun _ h => s2_off h) (fun _ _ => rfl) (fun _ _ => rfl) (fun _ h => s2_k h) d kk
/-- a final reference, in the constructor -/
theorem v_putr (C : Cx x cc own nL rm) {ci N n a k idx b : Nat} {Cn : String} {T : u_T} {ty : Nat → FieldType} (F : CF ci Cn T N ty) (hs : g.1 a = (ci, n)) (hk : (fkL ci)[k]? = some 2) (hw : Cond.fieldLink own idx (T k).1 (T k).2.1 (T k).2.2.1 ∈ TB) (hfin : (T k).2.2.2 = true) (hin : (kme x).name = "<init>") (hdecl : (T k).1 = own) (hn : narrow (ty k) (.ref b) = .ref b) (hfit : fits (ty k) (.ref b) = true)
    (d : decode cc pc = .ok (.putfield idx, 3)) (kk : V x (g.1, s2 g.2.1 a k (some b), g.2.2) cells slots I J (pc + 3) lv st) : V x g cells slots I J pc lv (.ref b :: .ref a :: st) :=
  put_core C (r2 := s2 g.2.1 a k (some b)) (I2 := I) (J2 := J) F hs hk hw (Or.inr ⟨hfin, hin, hdecl⟩) (by show Value.ref b = va_rf _; rw [s2_self]; rfl) hn hfit (fun _ h => s2_off h) (fun _ _ => rfl) (fun _ _ => rfl) (fun _ h => s2_k h) (fun _ _ => rfl) (fun _ _ => rfl) d kk
/-! arrays -/
theorem one_P {D : va_G} {a : Nat} {E : va_E} {H : Heap} (h : va_at D vcl (a, E) H) : va_P D vcl [(a, E)] H := fun q y hy => by
  have hq : q = 0 := by
    have := (List.getElem?_eq_some_iff.mp hy).1
    simp at this
    exact this
  subst hq
  cases hy
  exact h
theorem sh_live {g : GM} {a c n : Nat} (h : g.1 a = (c, n)) (hc : c < 99) : (g.1 a).1 ≠ 99 := by rw [h]; show c ≠ 99; omega
theorem v_iald (C : Cx x cc own nL rm) {a n : Nat} {i : Int32} (hs : g.1 a = (10, n)) (hin : vp_in i n) (d : decode cc pc = .ok (.iaload, 1)) (kk : V x g cells slots I J (pc + 1) lv (.int (I a i.toNatClampNeg) :: st)) : V x g cells slots I J pc lv (.int i :: .ref a :: st) := fun H locs ls a1 a2 a3 a4 a5 => by
  have hE := a2 a (sh_live hs (by decide))
  rw [cE_i hs] at hE
  exact va_iald C.1 C.2.1 C.2.2.2.2.1.1 (one_P hE) 0 0 rfl rfl hin d (kk H locs ls a1 a2 a3 a4 a5)
theorem v_lald (C : Cx x cc own nL rm) {a n : Nat} {i : Int32} (hs : g.1 a = (11, n)) (hin : vp_in i n) (d : decode cc pc = .ok (.laload, 1)) (kk : V x g cells slots I J (pc + 1) lv (.long (J a i.toNatClampNeg) :: st)) : V x g cells slots I J pc lv (.int i :: .ref a :: st) := fun H locs ls a1 a2 a3 a4 a5 => by
  have hE := a2 a (sh_live hs (by decide))
  rw [cE_l hs] at hE
  exact va_lald C.1 C.2.1 C.2.2.2.2.1.1 (one_P hE) 0 1 rfl rfl hin d (kk H locs ls a1 a2 a3 a4 a5)
theorem v_zald (C : Cx x cc own nL rm) {a n : Nat} {i : Int32} (hs : g.1 a = (12, n)) (hin : vp_in i n) (d : decode cc pc = .ok (.baload, 1)) (kk : V x g cells slots I J (pc + 1) lv (.int (I a i.toNatClampNeg) :: st)) : V x g cells slots I J pc lv (.int i :: .ref a :: st) := fun H locs ls a1 a2 a3 a4 a5 => by
  have hE := a2 a (sh_live hs (by decide))
  rw [cE_z hs] at hE
  exact va_zald C.1 C.2.1 C.2.2.2.2.1.1 (one_P hE) 0 2 rfl rfl hin d (kk H locs ls a1 a2 a3 a4 a5)
theorem v_pald (C : Cx x cc own nL rm) {a n b : Nat} {i : Int32} (hs : g.1 a = (13, n)) (hin : vp_in i n) (hr : g.2.1 a i.toNatClampNeg = some b) (d : decode cc pc = .ok (.aaload, 1)) (kk : V x g cells slots I J (pc + 1) lv (.ref b :: st)) : V x g cells slots I J pc lv (.int i :: .ref a :: st) := fun H locs ls a1 a2 a3 a4 a5 => by
  have hE := a2 a (sh_live hs (by decide))
  rw [cE_p hs] at hE
  refine va_aldq C.1 C.2.1 C.2.2.2.2.1.1 (one_P hE) 0 3 rfl rfl hin d ?_
  rw [hr]
  exact kk H locs ls a1 a2 a3 a4 a5
theorem v_uald (C : Cx x cc own nL rm) {a n : Nat} {i : Int32} (hs : g.1 a = (14, n)) (hin : vp_in i n) (d : decode cc pc = .ok (.aaload, 1)) (kk : V x g cells slots I J (pc + 1) lv (va_rf (g.2.1 a i.toNatClampNeg) :: st)) : V x g cells slots I J pc lv (.int i :: .ref a :: st) := fun H locs ls a1 a2 a3 a4 a5 => by
  have hE := a2 a (sh_live hs (by decide))
  rw [cE_u hs] at hE
  exact va_aldq C.1 C.2.1 C.2.2.2.2.1.1 (one_P hE) 0 4 rfl rfl hin d (kk H locs ls a1 a2 a3 a4 a5)
theorem v_iast (C : Cx x cc own nL rm) {a n : Nat} {i v : Int32} (hs : g.1 a = (10, n)) (hin : vp_in i n) (d : decode cc pc = .ok (.iastore, 1)) (kk : V x g cells slots (s2 I a i.toNatClampNeg v) J (pc + 1) lv st) : V x g cells slots I J pc lv (.int v :: .int i :: .ref a :: st) := fun H locs ls a1 a2 a3 a4 a5 => by
  have hl := sh_live hs (by decide)
  have hE := a2 a hl
  rw [cE_i hs] at hE
  refine W.iast C.1 C.2.1 hE ((C.2.2.2.2.1.1.2 0 _ rfl).1 n (fun j => .int (I a j))) (fun q => by cases q) (by show ¬ (i < 0 ∨ (arrV _ _ _).slots.size ≤ _); rw [arrV_size]; exact hin) rfl rfl d fun H1 e z oq => ?_
  refine kk H1 _ ls (by rw [z]; exact a1) (Wo.set a2 ?_ (fun _ _ => rfl) (fun _ h => s2_off h) (fun _ _ => rfl) oq) a3 (a4.put z oq (a3 a hl)) a5
  rw [cE_i hs]
  show H1[a]? = some (vp_cell _ _)
  rw [e, vp_cell_i, vp_cell_i, arrV_store]
  congr 2
  funext q
  by_cases hq : q = i.toNatClampNeg
  · subst hq
    simp [updV, s2]
  · simp [updV, s2, hq]
theorem v_zast (C : Cx x cc own nL rm) {a n : Nat} {i v : Int32} (hs : g.1 a = (12, n)) (hin : vp_in i n) (hv : v = 0 ∨ v = 1) (d : decode cc pc = .ok (.bastore, 1)) (kk : V x g cells slots (s2 I a i.toNatClampNeg v) J (pc + 1) lv st) : V x g cells slots I J pc lv (.int v :: .int i :: .ref a :: st) := fun H locs ls a1 a2 a3 a4 a5 => by
  have hl := sh_live hs (by decide)
  have hE := a2 a hl
  rw [cE_z hs] at hE
  have hnv : narrow .boolean (.int v) = .int v := by rcases hv with rfl | rfl <;> rfl
  refine W.zast C.1 C.2.1 hE ((C.2.2.2.2.1.1.2 2 _ rfl).1 n (fun j => .int (I a j))) (fun q => by cases q) (by show ¬ (i < 0 ∨ (arrV _ _ _).slots.size ≤ _); rw [arrV_size]; exact hin) rfl rfl d fun H1 e z oq => ?_
  refine kk H1 _ ls (by rw [z]; exact a1) (Wo.set a2 ?_ (fun _ _ => rfl) (fun _ h => s2_off h) (fun _ _ => rfl) oq) a3 (a4.put z oq (a3 a hl)) a5
  rw [cE_z hs]
  show H1[a]? = some (vp_cell _ _)
  rw [e, hnv, vp_cell_i, vp_cell_i, arrV_store]
  congr 2
  funext q
  by_cases hq : q = i.toNatClampNeg
  · subst hq
    simp [updV, s2]
  · simp [updV, s2, hq]
theorem v_last (C : Cx x cc own nL rm) {a n : Nat} {i : Int32} {v : Int64} (hs : g.1 a = (11, n)) (hin : vp_in i n) (d : decode cc pc = .ok (.lastore, 1)) (kk : V x g cells slots I (s2 J a i.toNatClampNeg v) (pc + 1) lv st) : V x g cells slots I J pc lv (.long v :: .int i :: .ref a :: st) := fun H locs ls a1 a2 a3 a4 a5 => by
  have hl := sh_live hs (by decide)
  have hE := a2 a hl
  rw [cE_l hs] at hE
  refine W.last C.1 C.2.1 hE ((C.2.2.2.2.1.1.2 1 _ rfl).1 n (fun j => .long (J a j))) (fun q => by cases q) (by show ¬ (i < 0 ∨ (arrV _ _ _).slots.size ≤ _); rw [arrV_size]; exact hin) rfl rfl d fun H1 e z oq => ?_
  refine kk H1 _ ls (by rw [z]; exact a1) (Wo.set a2 ?_ (fun _ _ => rfl) (fun _ _ => rfl) (fun _ h => s2_off h) oq) a3 (a4.put z oq (a3 a hl)) a5
  rw [cE_l hs]
  show H1[a]? = some (vp_cell _ _)
  rw [e, vp_cell_l, vp_cell_l, arrV_store]
  congr 2
  funext q
  by_cases hq : q = i.toNatClampNeg
  · subst hq
    simp [updV, s2]
  · simp [updV, s2, hq]
theorem ast_core (C : Cx x cc own nL rm) {H : Heap} {a n b ci t N w : Nat} {i : Int32} {Cn : String} {T : u_T} {ty : Nat → FieldType} (F : CF ci Cn T N ty) (hE : va_at (kD x) vcl (a, .inl ((kD x).1 w, n, .inr (.inr (.inr (.inr (g.2.1 a)))))) H) (ht : (ktys (kD x))[t]? = some ((kD x).1 w, .object Cn)) (hl : (g.1 a).1 ≠ 99) (hcE : ∀ r2 : MR, cE (kD x) g.1 r2 I J a = .inl ((kD x).1 w, n, .inr (.inr (.inr (.inr (r2 a)))))) (hin : vp_in i n) (hb : g.1 b = (ci, 0)) (d : decode cc pc = .ok (.aastore, 1)) (kk : V x (g.1, s2 g.2.1 a i.toNatClampNeg (some b), g.2.2) cells slots I J (pc + 1) lv st) {locs : List Loc} {ls : Array Slot} (a1 : H.size = g.2.2) (a2 : Wo (kD x) g.1 g.2.1 I J H) (a3 : ∀ a : Nat, (g.1 a).1 ≠ 99 → kA x a) (a4 : va_S (kA x) (ks x).heap H locs) (a5 : lh ls (kn x) lv) : W (kp x) (kl x) (ke x) (kR x) (ks x) (km x) (kar x) (kbe x) (kme x) (kc x) H locs cells slots (kQ x) (F0 (km x) pc ls (.ref b :: .int i :: .ref a :: st)) := by
  obtain ⟨f1, f2, f3, f4, f5, f6⟩ := F
  have hK := C.2.2.2.2.1.1
  have hlt : i.toNatClampNeg < n := Nat.not_le.mp fun q => hin (Or.inr q)
  have h0 : ¬ i < 0 := fun q => hin (Or.inl q)
  have hB := a2 b (sh_live hb (by omega))
  rw [cE_o hb f6] at hB
  obtain ⟨r', hr', cellV, g1, g2, g3, -⟩ := hB
  have hcls := (hK.1 ci _ f1).2
  obtain ⟨kA1, comp, k1, k2, k3, -⟩ := (hK.2 t _ ht).2
  have hcomp : comp = (kD x).1 ci := Option.some.inj (k3.symm.trans hcls.1)
  subst hcomp
  obtain ⟨kC, hkC, -⟩ := hcls.2
  refine W.aast C.1 C.2.1 hE (fun q h => by cases h) (fun h => by cases h) k1 k2 rfl hkC ⟨h0, by show _ < (arrV _ _ _).slots.size; rw [arrV_size]; exact hlt⟩ g1 (fun q h => by rw [g3] at h; cases h) (by rw [g2]; exact hkC) (by rw [g2]; exact va_assign hcls) rfl rfl d fun H1 e z oq => ?_
  refine kk H1 _ ls (by rw [z]; exact a1) (Wo.set a2 ?_ (fun _ h => s2_off h) (fun _ _ => rfl) (fun _ _ => rfl) oq) a3 (a4.put z oq (a3 a hl)) a5
  rw [hcE]
  show H1[a]? = some (vp_cell _ _)
  rw [e, vp_cell_q, vp_cell_q, arrV_store]
  congr 2
  funext q
  by_cases hq : q = i.toNatClampNeg
  · subst hq
    simp [updV, s2, va_rf]
  · simp [updV, s2, hq]
theorem v_past (C : Cx x cc own nL rm) {a n b : Nat} {i : Int32} (hs : g.1 a = (13, n)) (hin : vp_in i n) (hb : g.1 b = (0, 0)) (d : decode cc pc = .ok (.aastore, 1)) (kk : V x (g.1, s2 g.2.1 a i.toNatClampNeg (some b), g.2.2) cells slots I J (pc + 1) lv st) : V x g cells slots I J pc lv (.ref b :: .int i :: .ref a :: st) := fun H locs ls a1 a2 a3 a4 a5 => by
  have hl := sh_live hs (by decide)
  have hE := a2 a hl
  rw [cE_p hs] at hE
  exact ast_core C cfOp hE (t := 3) rfl hl (fun r2 => cE_p hs) hin hb d kk a1 a2 a3 a4 a5
theorem v_uast (C : Cx x cc own nL rm) {a n b : Nat} {i : Int32} (hs : g.1 a = (14, n)) (hin : vp_in i n) (hb : g.1 b = (3, 0)) (d : decode cc pc = .ok (.aastore, 1)) (kk : V x (g.1, s2 g.2.1 a i.toNatClampNeg (some b), g.2.2) cells slots I J (pc + 1) lv st) : V x g cells slots I J pc lv (.ref b :: .int i :: .ref a :: st) := fun H locs ls a1 a2 a3 a4 a5 => by
  have hl := sh_live hs (by decide)
  have hE := a2 a hl
  rw [cE_u hs] at hE
  exact ast_core C cfSu hE (t := 4) rfl hl (fun r2 => cE_u hs) hin hb d kk a1 a2 a3 a4 a5
theorem v_ialen (C : Cx x cc own nL rm) {a n : Nat} (v : Int32) (hs : g.1 a = (10, n)) (hv : Int32.ofNat n = v) (d : decode cc pc = .ok (.arraylength, 1)) (kk : V x g cells slots I J (pc + 1) lv (.int v :: st)) : V x g cells slots I J pc lv (.ref a :: st) := fun H locs ls a1 a2 a3 a4 a5 => by
  have hE := a2 a (sh_live hs (by decide))
  rw [cE_i hs] at hE
  exact va_alen C.1 C.2.1 C.2.2.2.2.1.1 (one_P hE) 0 0 rfl rfl hv d (kk H locs ls a1 a2 a3 a4 a5)
/-! what is made -/
def g_sh (g : GM) (s : Nat × Nat) : GM := (fun b => if b = g.2.2 then s else g.1 b, fun b => if b = g.2.2 then (fun _ => none) else g.2.1 b, g.2.2 + 1)
def z_m {α : Type} (f : Nat → Nat → α) (a : Nat) (v : α) : Nat → Nat → α := fun b => if b = a then (fun _ => v) else f b
theorem g_live (C : Cx x cc own nL rm) {s : Nat × Nat} {H : Heap} {locs : List Loc} (a3 : ∀ a : Nat, (g.1 a).1 ≠ 99 → kA x a) (a4 : va_S (kA x) (ks x).heap H locs) (a1 : H.size = g.2.2) : ∀ a : Nat, ((g_sh g s).1 a).1 ≠ 99 → kA x a := by
  intro b hb
  by_cases hq : b = g.2.2
  · exact C.2.2.2.2.2.2.2.2.2 b (by rw [hq, ← a1]; exact a4.1)
  · refine a3 b ?_
    have h9 : (g_sh g s).1 b = g.1 b := if_neg hq
    rw [h9] at hb
    exact hb
theorem v_new (C : Cx x cc own nL rm) {ci N idx : Nat} {Cn : String} {T : u_T} {ty : Nat → FieldType} (F : CF ci Cn T N ty) (hd0 : ∀ k, k < N → defaultValue (ty k) = fv (fun _ _ => none) (fun _ _ => 0) (fun _ _ => 0) 0 ((fkL ci).getD k 0) k) (hc : Cond.classLink own idx Cn ∈ TB) (hi : Cond.instantiable Cn N ∈ TB) (hz : Cond.initialized Cn ∈ TB) (hcells : cells + 1 ≤ rm.cells) (hslots : slots + N ≤ rm.slots) (d : decode cc pc = .ok (.new idx, 3))
    (kk : V x (g_sh g (ci, 0)) (cells + 1) (slots + N) (z_m I g.2.2 0) (z_m J g.2.2 0) (pc + 3) lv (.ref g.2.2 :: st)) : V x g cells slots I J pc lv st := fun H locs ls a1 a2 a3 a4 a5 => by
  obtain ⟨f1, f2, f3, f4, f5, f6⟩ := F
  have hKn := C.2.2.2.2.1.1.1 ci _ f1
  have hR := C.2.2.2.2.2.2.2.1
  refine W.newcK C.1 C.2.1 C.2.2.1 (C.tb hc) (C.tb hi) (C.tb hz) rfl d (by rw [hR]; exact hcells) (by rw [hR]; exact hslots) hKn.2.1 a1 fun H1 kC hkC e1 z1 o1 => ?_
  have hz9 : g.2.2 = H.size := a1.symm
  refine kk H1 locs ls z1 ?_ (g_live C a3 a4 a1) ⟨Nat.le_trans a4.1 (by omega), fun y h1 h2 => (o1 y (by rw [hz9]; exact Nat.lt_of_lt_of_le h1 a4.1)).trans (a4.2.1 y h1 h2), a4.2.2⟩ a5
  refine Wo.push a2 a1 ?_ (fun b hb => if_neg hb) (fun b hb => if_neg hb) (fun b hb => if_neg hb) (fun b hb => if_neg hb) o1
  rw [cE_o (n := 0) (ci := ci) (if_pos rfl) f6]
  refine ⟨_, f1, (u_born ty C.2.2.2.1 f2 hKn hkC e1 f3).to fun j hj => ?_⟩
  rw [hd0 j hj]
  have hj2 : (fkL ci)[j]? = some ((fkL ci).getD j 0) := by
    rw [List.getD_eq_getElem?_getD, List.getElem?_eq_getElem (by rw [f5]; exact hj)]
    rfl
  have e9 : ∀ (r : MR) (I : MI) (J : MJ) (a : Nat), (fvs (fkL ci) r I J a).getD j Value.null = fv r I J a ((fkL ci).getD j 0) j := fun r I J a => by
    rw [List.getD_eq_getElem?_getD, fvs_get hj2]
    rfl
  refine Eq.trans ?_ (e9 _ _ _ _).symm
  unfold fv z_m g_sh
  split <;> simp
theorem newa_core (C : Cx x cc own nL rm) {at0 : ArrayType} {ty : FieldType} {t c N : Nat} {n : Int32} (hty : newarray.typeOf at0 = ty) (ht : (ktys (kD x))[t]? = some ((kD x).1 c, ty)) (hra : ∀ cA, va_RA (ks x) cA ty → (ks x).vm.findClass ("[" ++ ty.toString) = some cA) (hw : Cond.arrayClass ty ∈ TB) (hn : ¬ n < 0) (hN : n.toNatClampNeg = N) (hbytes : N * componentBytes ty ≤ 536870912) (hcells : cells + 1 ≤ rm.cells) (hslots : slots + N ≤ rm.slots) {k : Nat} {I2 : MI} {J2 : MJ} (hI : ∀ b, b ≠ g.2.2 → I2 b = I b) (hJ : ∀ b, b ≠ g.2.2 → J2 b = J b) (d : decode cc pc = .ok (.newarray at0, 2))
    (hcell : ∀ H1 : Heap, H1[g.2.2]? = some (arrV ((kD x).1 c) N (fun _ => defaultValue ty)) → va_at (kD x) vcl (g.2.2, cE (kD x) (g_sh g (k, N)).1 (g_sh g (k, N)).2.1 I2 J2 g.2.2) H1)
    (kk : V x (g_sh g (k, N)) (cells + 1) (slots + N) I2 J2 (pc + 2) lv (.ref g.2.2 :: st)) : V x g cells slots I J pc lv (.int n :: st) := fun H locs ls a1 a2 a3 a4 a5 => by
  subst hty
  have hR := C.2.2.2.2.2.2.2.1
  refine va_newaK C.1 C.2.1 (C.tb hw) rfl d rfl hn hN hbytes (by rw [hR]; exact hcells) (by rw [hR]; exact hslots) a1 fun H1 cA e1 z1 o1 hAr hNm => ?_
  have hcA : cA = (kD x).1 c := Option.some.inj (hNm.symm.trans (hra _ (C.2.2.2.2.1.1.2 t _ ht).2))
  subst hcA
  have hz9 : g.2.2 = H.size := a1.symm
  refine kk H1 locs ls z1 ?_ (g_live C a3 a4 a1) ⟨Nat.le_trans a4.1 (by omega), fun y h1 h2 => (o1 y (by rw [hz9]; exact Nat.lt_of_lt_of_le h1 a4.1)).trans (a4.2.1 y h1 h2), a4.2.2⟩ a5
  exact Wo.push a2 a1 (hcell H1 e1) (fun b hb => if_neg hb) (fun b hb => if_neg hb) hI hJ o1
theorem v_newi (C : Cx x cc own nL rm) (N : Nat) {n : Int32} (hn : ¬ n < 0) (hN : n.toNatClampNeg = N) (hbytes : N * componentBytes .int ≤ 536870912) (hcells : cells + 1 ≤ rm.cells) (hslots : slots + N ≤ rm.slots) (d : decode cc pc = .ok (.newarray .int, 2))
    (kk : V x (g_sh g (10, N)) (cells + 1) (slots + N) (z_m I g.2.2 0) J (pc + 2) lv (.ref g.2.2 :: st)) : V x g cells slots I J pc lv (.int n :: st) :=
  newa_core C (ty := .int) (t := 0) (c := 100) rfl rfl (fun cA h => h) w57 hn hN hbytes hcells hslots (fun b hb => if_neg hb) (fun _ _ => rfl) d (fun H1 e1 => by
    rw [cE_i (n := N) (if_pos rfl)]
    show H1[g.2.2]? = some (vp_cell _ _)
    rw [e1, vp_cell_i]
    congr 2
    funext q
    simp [z_m, defaultValue]) kk
theorem v_newl (C : Cx x cc own nL rm) (N : Nat) {n : Int32} (hn : ¬ n < 0) (hN : n.toNatClampNeg = N) (hbytes : N * componentBytes .long ≤ 536870912) (hcells : cells + 1 ≤ rm.cells) (hslots : slots + N ≤ rm.slots) (d : decode cc pc = .ok (.newarray .long, 2))
    (kk : V x (g_sh g (11, N)) (cells + 1) (slots + N) I (z_m J g.2.2 0) (pc + 2) lv (.ref g.2.2 :: st)) : V x g cells slots I J pc lv (.int n :: st) :=
  newa_core C (ty := .long) (t := 1) (c := 101) rfl rfl (fun cA h => h) w58 hn hN hbytes hcells hslots (fun _ _ => rfl) (fun b hb => if_neg hb) d (fun H1 e1 => by
    rw [cE_l (n := N) (if_pos rfl)]
    show H1[g.2.2]? = some (vp_cell _ _)
    rw [e1, vp_cell_l]
    congr 2
    funext q
    simp [z_m, defaultValue]) kk
theorem v_newz (C : Cx x cc own nL rm) (N : Nat) {n : Int32} (hn : ¬ n < 0) (hN : n.toNatClampNeg = N) (hbytes : N * componentBytes .boolean ≤ 536870912) (hcells : cells + 1 ≤ rm.cells) (hslots : slots + N ≤ rm.slots) (d : decode cc pc = .ok (.newarray .boolean, 2))
    (kk : V x (g_sh g (12, N)) (cells + 1) (slots + N) (z_m I g.2.2 0) J (pc + 2) lv (.ref g.2.2 :: st)) : V x g cells slots I J pc lv (.int n :: st) :=
  newa_core C (ty := .boolean) (t := 2) (c := 102) rfl rfl (fun cA h => h) w107 hn hN hbytes hcells hslots (fun b hb => if_neg hb) (fun _ _ => rfl) d (fun H1 e1 => by
    rw [cE_z (n := N) (if_pos rfl)]
    show H1[g.2.2]? = some (vp_cell _ _)
    rw [e1, vp_cell_i]
    congr 2
    funext q
    simp [z_m, defaultValue]) kk
theorem newq_core (C : Cx x cc own nL rm) {Cn : String} {t c N k idx : Nat} {n : Int32} (hao : va_AO Cn (ks x)) (ht : (ktys (kD x))[t]? = some ((kD x).1 c, .object Cn)) (hw : Cond.classLink own idx Cn ∈ TB) (hn : ¬ n < 0) (hN : n.toNatClampNeg = N) (hbytes : N * 4 ≤ 536870912) (hcells : cells + 1 ≤ rm.cells) (hslots : slots + N ≤ rm.slots) (d : decode cc pc = .ok (.anewarray idx, 3))
    (hcell : ∀ H1 : Heap, H1[g.2.2]? = some (arrV ((kD x).1 c) N (fun _ => .null)) → va_at (kD x) vcl (g.2.2, cE (kD x) (g_sh g (k, N)).1 (g_sh g (k, N)).2.1 I J g.2.2) H1)
    (kk : V x (g_sh g (k, N)) (cells + 1) (slots + N) I J (pc + 3) lv (.ref g.2.2 :: st)) : V x g cells slots I J pc lv (.int n :: st) := fun H locs ls a1 a2 a3 a4 a5 => by
  subst hN
  have hR := C.2.2.2.2.2.2.2.1
  refine W.anew C.1 C.2.1 C.2.2.1 (C.tb hw) (va_AO.use hao) rfl d rfl hn hbytes (by rw [hR]; exact hcells) (by rw [hR]; exact hslots) fun cA kA1 comp f1 f2 f3 f4 => ?_
  obtain ⟨kA2, comp2, k1, k2, k3, k4⟩ := (C.2.2.2.2.1.1.2 t _ ht).2
  have hcA : cA = (kD x).1 c := Option.some.inj (f1.symm.trans k4)
  subst hcA
  generalize hH1 : H.push ({ cls := (kD x).1 c, slots := Array.replicate n.toNatClampNeg .null, vm := .none } : Cell) = H1
  have hz9 : g.2.2 = H.size := a1.symm
  have z1 : H1.size = g.2.2 + 1 := by rw [← hH1, Array.size_push, hz9]
  have e1 : H1[g.2.2]? = some (arrV ((kD x).1 c) n.toNatClampNeg (fun _ => .null)) := by rw [hz9, ← hH1, Array.getElem?_push_size, ← arrV_new]
  have o1 : ∀ q : Nat, q < g.2.2 → H1[q]? = H[q]? := fun q hq => by rw [← hH1, Array.getElem?_push, if_neg (by rw [hz9] at hq; exact Nat.ne_of_lt hq)]
  have kk2 := kk H1 locs ls z1 (Wo.push a2 a1 (hcell H1 e1) (fun b hb => if_neg hb) (fun b hb => if_neg hb) (fun _ _ => rfl) (fun _ _ => rfl) o1) (g_live C a3 a4 a1) ⟨Nat.le_trans a4.1 (by omega), fun y h1 h2 => (o1 y (by rw [hz9]; exact Nat.lt_of_lt_of_le h1 a4.1)).trans (a4.2.1 y h1 h2), a4.2.2⟩ a5
  rw [hz9] at kk2
  exact kk2
theorem v_newp (C : Cx x cc own nL rm) (N : Nat) {n : Int32} {idx : Nat} (hw : Cond.classLink own idx "LinearHistories$Operation" ∈ TB) (hn : ¬ n < 0) (hN : n.toNatClampNeg = N) (hbytes : N * 4 ≤ 536870912) (hcells : cells + 1 ≤ rm.cells) (hslots : slots + N ≤ rm.slots) (d : decode cc pc = .ok (.anewarray idx, 3))
    (kk : V x (g_sh g (13, N)) (cells + 1) (slots + N) I J (pc + 3) lv (.ref g.2.2 :: st)) : V x g cells slots I J pc lv (.int n :: st) :=
  newq_core C (t := 3) (c := 103) C.2.2.2.2.1.2.1 rfl hw hn hN hbytes hcells hslots d (fun H1 e1 => by
    rw [cE_p (n := N) (if_pos rfl)]
    show H1[g.2.2]? = some (vp_cell _ _)
    rw [e1, vp_cell_q]
    congr 2
    funext q
    simp [g_sh, va_rf]) kk
theorem v_newu (C : Cx x cc own nL rm) (N : Nat) {n : Int32} {idx : Nat} (hw : Cond.classLink own idx "LinearHistories$Subject" ∈ TB) (hn : ¬ n < 0) (hN : n.toNatClampNeg = N) (hbytes : N * 4 ≤ 536870912) (hcells : cells + 1 ≤ rm.cells) (hslots : slots + N ≤ rm.slots) (d : decode cc pc = .ok (.anewarray idx, 3))
    (kk : V x (g_sh g (14, N)) (cells + 1) (slots + N) I J (pc + 3) lv (.ref g.2.2 :: st)) : V x g cells slots I J pc lv (.int n :: st) :=
  newq_core C (t := 4) (c := 104) C.2.2.2.2.1.2.2.1 rfl hw hn hN hbytes hcells hslots d (fun H1 e1 => by
    rw [cE_u (n := N) (if_pos rfl)]
    show H1[g.2.2]? = some (vp_cell _ _)
    rw [e1, vp_cell_q]
    congr 2
    funext q
    simp [g_sh, va_rf]) kk
end VR
end
section
/-! CONTRACTS over the memory: from (g, I, J) with the arguments av the method comes back; Post says with what, and what the memory is then -/
def AA (g : GM) : Nat → Prop := fun q => (g.1 q).1 ≠ 99 ∨ g.2.2 ≤ q
def QP (D : va_G) (A : Nat → Prop) (Post : Option Value → GM → MI → MJ → Prop) : Array Value → State → Outcome → State → Prop := fun _ st oc t => (∃ (v : Option Value) (g : GM) (I : MI) (J : MJ), oc = .returned v ∧ Post v g I J ∧ t.heap.size = g.2.2 ∧ Wo D g.1 g.2.1 I J t.heap ∧ ∀ a : Nat, (g.1 a).1 ≠ 99 → A a) ∧ va_F A st t
def PP (D : va_G) (g : GM) (I : MI) (J : MJ) (av : List Value) : Array Value → State → Prop := va_Pc av (fun U => U.heap.size = g.2.2 ∧ Wo D g.1 g.2.1 I J U.heap ∧ KK D U)
def Ct (l : Launch) (y : MethodName) (cc : ByteArray) (nL : Nat) (ret : Option FieldType) (rm : Room) (D : va_G) (av : List Value) (g : GM) (I : MI) (J : MJ) (Post : Option Value → GM → MI → MJ → Prop) : Prop :=
  Met l y (.code y cc nL ret :: TB) rm (PP D g I J av) (QP D (AA g) Post) rm.cells rm.slots (AA g)
/-- what a walk knows of its own contract -/
def Mx (x : KX) (l : Launch) (D : va_G) (g : GM) (ret : Option FieldType) (nm : String) (rm : Room) (Post : Option Value → GM → MI → MJ → Prop) : Prop :=
  kl x = l ∧ kD x = D ∧ (kme x).sig.returnType = ret ∧ kA x = AA g ∧ kQ x = MQ (kbe x) (QP D (AA g) Post) (kar x) (ks x) rm.cells rm.slots (AA g) ∧ (kme x).name = nm
theorem PP_blind {D : va_G} {g : GM} {I : MI} {J : MJ} {av : List Value} : FrameBlind (PP D g I J av) := fun a U g2 mk q => by
  obtain ⟨q0, q1, qP, qK⟩ := q
  exact ⟨q0, q1, qP, KK.same (s := U) (U := U.calling g2 mk a) rfl qK⟩
theorem Ct.of {l : Launch} {y : MethodName} {cc : ByteArray} {nL : Nat} {ret : Option FieldType} {rm : Room} {D : va_G} {av : List Value} {g : GM} {I : MI} {J : MJ} {Post : Option Value → GM → MI → MJ → Prop} (hy : plainName y.cls = true) (hlen : (lg_sl av).length ≤ nL) (lv0 : List (Option Value)) (he : prs lv0 = lv_args 0 av)
    (body : ∀ x : KX, Cx x cc y.cls nL rm → Mx x l D g ret y.name rm Post → V x g 0 0 I J 0 lv0 []) : Ct l y cc nL ret rm D av g I J Post := by
  refine Met.ofW (cc := cc) (maxL := nL) (ret := ret) hy rfl ?_
  intro p e s m args below meth c s₁ B hml hv
  obtain ⟨rfl, hsz, hP, hK⟩ := hv
  have hts := atoms_spec (ws := Cond.code y cc nL ret :: TB) B.pre
  have hown : s.vm.findClass y.cls = some m.cls := findClass_of_methodNamed B.named
  have hin := name_of_methodNamed B.named B.method
  have hl := lv_entry av (n := nL) hlen
  rw [lg_entry_eq]
  generalize (lg_sl av ++ List.replicate (nL - (lg_sl av).length) Slot.unset).toArray = ls at hl ⊢
  have hA : ∀ q, s.heap.size ≤ q → AA g q := fun q h => Or.inr (by rw [← hsz]; exact h)
  refine body (p, l, e, rm, s, m, av.toArray, below, meth, c, nL, D, AA g, MQ below (QP D (AA g) Post) av.toArray s rm.cells rm.slots (AA g)) ⟨B.exec, B.bytes, hown, fun w hw => hts w (List.mem_cons_of_mem _ hw), hK, hml, rfl, rfl, B.notSynchronized, hA⟩ ⟨rfl, rfl, B.returns, rfl, rfl, hin.1⟩ s.heap [] ls hsz hP (fun a ha => Or.inl ha) va_S.rf ?_
  show lv_has ls nL (prs lv0)
  rw [he]
  exact hl
section VC
variable {x : KX} {cc : ByteArray} {own : String} {nL : Nat} {rm : Room} {g : GM} {cells slots : Nat} {I : MI} {J : MJ} {pc : Nat} {lv : List (Option Value)} {st : List Value}
variable {l : Launch} {D : va_G} {g0 : GM} {nm : String} {Post : Option Value → GM → MI → MJ → Prop}
theorem ret_q {v : Option Value} {ret : Option FieldType} (M : Mx x l D g0 ret nm rm Post) (hp : Post v g I J) {H : Heap} {locs : List Loc} (a1 : H.size = g.2.2) (a2 : Wo (kD x) g.1 g.2.1 I J H) (a3 : ∀ a : Nat, (g.1 a).1 ≠ 99 → kA x a) (a4 : va_S (kA x) (ks x).heap H locs) (t : State) (ht : t.heap = H) : QP D (AA g0) Post (kar x) (ks x) (.returned v) t := by
  obtain ⟨m1, m2, m3, m4, m5, m6⟩ := M
  rw [m4] at a3 a4
  rw [m2] at a2
  exact ⟨⟨v, g, I, J, rfl, hp, by rw [ht]; exact a1, by rw [ht]; exact a2, a3⟩, a4.F ht⟩
theorem v_iret (C : Cx x cc own nL rm) (M : Mx x l D g0 (some .int) nm rm Post) {v : Int32} (d : decode cc pc = .ok (.ireturn, 1)) (hc : cells ≤ rm.cells) (hs : slots ≤ rm.slots) (hp : Post (some (.int v)) g I J) : V x g cells slots I J pc lv [.int v] := fun H locs ls a1 a2 a3 a4 a5 => by
  refine W.widen hc hs ?_
  rw [M.2.2.2.2.1]
  exact W.iret C.1 C.2.1 M.2.2.1 (fun t ht _ => ret_q M hp a1 a2 a3 a4 t ht) (fun q hq => by rw [← M.2.2.2.1]; exact a4.2.2 q hq) d C.2.2.2.2.2.2.2.2.1
theorem v_zret (C : Cx x cc own nL rm) (M : Mx x l D g0 (some .boolean) nm rm Post) {v : Int32} (hv : v = 0 ∨ v = 1) (d : decode cc pc = .ok (.ireturn, 1)) (hc : cells ≤ rm.cells) (hs : slots ≤ rm.slots) (hp : Post (some (.int v)) g I J) : V x g cells slots I J pc lv [.int v] := fun H locs ls a1 a2 a3 a4 a5 => by
  refine W.widen hc hs ?_
  rw [M.2.2.2.2.1]
  exact W.zret C.1 C.2.1 M.2.2.1 (by rcases hv with rfl | rfl <;> rfl) (fun t ht _ => ret_q M hp a1 a2 a3 a4 t ht) (fun q hq => by rw [← M.2.2.2.1]; exact a4.2.2 q hq) d C.2.2.2.2.2.2.2.2.1
theorem v_lret (C : Cx x cc own nL rm) (M : Mx x l D g0 (some .long) nm rm Post) {v : Int64} (d : decode cc pc = .ok (.lreturn, 1)) (hc : cells ≤ rm.cells) (hs : slots ≤ rm.slots) (hp : Post (some (.long v)) g I J) : V x g cells slots I J pc lv [.long v] := fun H locs ls a1 a2 a3 a4 a5 => by
  refine W.widen hc hs ?_
  rw [M.2.2.2.2.1]
  exact W.lret C.1 C.2.1 M.2.2.1 (fun t ht _ => ret_q M hp a1 a2 a3 a4 t ht) (fun q hq => by rw [← M.2.2.2.1]; exact a4.2.2 q hq) d C.2.2.2.2.2.2.2.2.1
theorem v_aret (C : Cx x cc own nL rm) {cn : String} (M : Mx x l D g0 (some (.object cn)) nm rm Post) {a : Nat} (d : decode cc pc = .ok (.areturn, 1)) (hc : cells ≤ rm.cells) (hs : slots ≤ rm.slots) (hp : Post (some (.ref a)) g I J) : V x g cells slots I J pc lv [.ref a] := fun H locs ls a1 a2 a3 a4 a5 => by
  refine W.widen hc hs ?_
  rw [M.2.2.2.2.1]
  exact W.aret C.1 C.2.1 M.2.2.1 (Or.inl ⟨cn, rfl⟩) (Or.inr ⟨a, rfl⟩) (fun t ht _ => ret_q M hp a1 a2 a3 a4 t ht) (fun q hq => by rw [← M.2.2.2.1]; exact a4.2.2 q hq) d C.2.2.2.2.2.2.2.2.1
theorem v_vret (C : Cx x cc own nL rm) (M : Mx x l D g0 none nm rm Post) (d : decode cc pc = .ok (.return_, 1)) (hc : cells ≤ rm.cells) (hs : slots ≤ rm.slots) (hp : Post none g I J) : V x g cells slots I J pc lv [] := fun H locs ls a1 a2 a3 a4 a5 => by
  refine W.widen hc hs ?_
  rw [M.2.2.2.2.1]
  exact W.vret C.1 C.2.1 M.2.2.1 (fun t ht _ => ret_q M hp a1 a2 a3 a4 t ht) (fun q hq => by rw [← M.2.2.2.1]; exact a4.2.2 q hq) d C.2.2.2.2.2.2.2.2.1
/-! calls -/
/-- a method's words: n its arguments -/
def MW (y : MethodName) (cc2 : ByteArray) (nL2 : Nat) (ret2 : Option FieldType) (n : Nat) : Prop := Cond.code y cc2 nL2 ret2 ∈ TB ∧ Cond.initialized y.cls ∈ TB ∧ (y.cls ≠ "java/lang/invoke/MethodHandle" ∧ y.cls ≠ "java/lang/invoke/VarHandle") ∧ (parseMethodDescriptor y.desc).map (fun d => d.parameters.length) = some n
theorem tb_good {w : Cond} (h : w ∈ TB) : goodWord w = true := (List.mem_filter.mp h).2
theorem ws_ok (C : Cx x cc own nL rm) {w0 : Cond} (h0 : w0 ∈ TB) : ∀ w ∈ w0 :: TB, ∀ (a' : Array Value) (U : State), (ks x).WarmedH U.vm → w.before a' U = true := fun w hw a' U hW => by
  have hm : w ∈ TB := (List.mem_cons.mp hw).elim (fun e => e ▸ h0) id
  exact word_at hW (good_of_word (tb_good hm)) (C.tb hm)
theorem call_b (C : Cx x cc own nL rm) {y : MethodName} {cc2 : ByteArray} {nL2 n idx : Nat} {ret2 : Option FieldType} {rm2 : Room} (hm : MW y cc2 nL2 ret2 n) (hl : Cond.methodLink own idx y ∈ TB) (hf : rm2.frames + 1 ≤ rm.frames) (hlo : 8 + (nL2 + 11) + rm2.locals ≤ rm.locals) : CallB (kR x) (ks x) (kar x) own idx y cc2 nL2 ret2 (Cond.code y cc2 nL2 ret2 :: TB) rm2 rm2.cells rm2.slots n := by
  obtain ⟨m1, m2, m3, m4⟩ := hm
  have hR := C.2.2.2.2.2.2.2.1
  refine ⟨rfl, rfl, by rw [hR]; exact hf, by rw [hR]; exact hlo, ws_ok C m1, List.mem_cons_self, C.tb m1, C.tb m2, m3, fun sig h => ?_, C.tb hl⟩
  rw [h] at m4
  exact (Option.some.inj m4).symm
theorem call_go (C : Cx x cc own nL rm) {Qa : Array Value → State → Outcome → State → Prop} {As : Array Value} {rm2 : Room} {H : Heap} {locs : List Loc} {ls : Array Slot} {stk : List Value} (a1 : H.size = g.2.2) (a3 : ∀ a : Nat, (g.1 a).1 ≠ 99 → kA x a) (a4 : va_S (kA x) (ks x).heap H locs) (a5 : lh ls (kn x) lv)
    (hr : va_Run (kp x) (kl x) (ke x) (kR x) (ks x) (km x) (kar x) (kbe x) (kme x) (kc x) H locs cells slots rm2.cells rm2.slots (F0 (km x) pc ls stk) st (QP (kD x) (AA g) Post As) (AA g))
    (k : ∀ (v : Option Value) (g2 : GM) (I2 : MI) (J2 : MJ), Post v g2 I2 J2 → V x g2 (cells + rm2.cells) (slots + rm2.slots) I2 J2 (pc + 3) lv (v.toList ++ st)) :
    W (kp x) (kl x) (ke x) (kR x) (ks x) (km x) (kar x) (kbe x) (kme x) (kc x) H locs cells slots (kQ x) (F0 (km x) pc ls stk) := by
  intro T hT X
  obtain ⟨v, st₀, t, T', L, h0, X', hL, e1, e2, ⟨⟨v2, g2, I2, J2, hv, hp, hz2, hW2, hA2⟩, hz, hk⟩, st1⟩ := hr T hT X
  cases hv
  rw [h0] at hz hk
  have hAA : ∀ q, AA g q → kA x q := fun q hq => hq.elim (a3 q) (fun h => C.2.2.2.2.2.2.2.2.2 q (Nat.le_trans a4.1 (by rw [a1]; exact h)))
  obtain ⟨t2, b1, b2⟩ := k v g2 I2 J2 hp T'.heap (locs ++ L) ls (by rw [e1]; exact hz2) (by rw [e1]; exact hW2) (fun a ha => hAA a (hA2 a ha)) ⟨Nat.le_trans a4.1 (by rw [e1]; exact hz), fun q h1 h2 => by
      rw [e1, hk q (Nat.lt_of_lt_of_le h1 a4.1) (fun z => h2 (hAA q z))]
      exact a4.2.1 q h1 h2, fun q hq => by
      rcases List.mem_append.mp hq with h | h
      · exact a4.2.2 q h
      · exact hAA _ (hL q h)⟩ a5 T' rfl X'
  exact ⟨t2, st1 t2 b1, b2⟩
theorem PP_at (C : Cx x cc own nL rm) {H : Heap} (a1 : H.size = g.2.2) (a2 : Wo (kD x) g.1 g.2.1 I J H) (av : List Value) : ∀ U : State, U.heap = H → (ks x).WarmedH U.vm → PP (kD x) g I J av av.toArray U := fun U hU hW => ⟨rfl, by rw [hU]; exact a1, by rw [hU]; exact a2, KK.warm hW C.2.2.2.2.1⟩
theorem v_callV (C : Cx x cc own nL rm) {y : MethodName} {cc2 : ByteArray} {nL2 n idx b ci m2 N : Nat} {ret2 : Option FieldType} {rm2 : Room} {As stk : List Value} {Cn : String} {T : u_T} {ty : Nat → FieldType} (hct : Ct (kl x) y cc2 nL2 ret2 rm2 (kD x) (.ref b :: As) g I J Post) (hm : MW y cc2 nL2 ret2 n) (F : CF ci Cn T N ty) (hb : g.1 b = (ci, m2)) (hi : Cond.instanceMethod y ∈ TB) (hse : Cond.selects Cn y y ∈ TB) (hl : Cond.methodLink own idx y ∈ TB) (hn : As.length = n) (hst : stk = As.reverse ++ .ref b :: st) (hW : (st.map fun v => v.category).sum ≤ 8) (hf : rm2.frames + 1 ≤ rm.frames) (hlo : 8 + (nL2 + 11) + rm2.locals ≤ rm.locals) (hc2 : cells + rm2.cells ≤ rm.cells) (hs2 : slots + rm2.slots ≤ rm.slots) (d : decode cc pc = .ok (.invokevirtual idx, 3))
    (k : ∀ (v : Option Value) (g2 : GM) (I2 : MI) (J2 : MJ), Post v g2 I2 J2 → V x g2 (cells + rm2.cells) (slots + rm2.slots) I2 J2 (pc + 3) lv (v.toList ++ st)) : V x g cells slots I J pc lv stk := fun H locs ls a1 a2 a3 a4 a5 => by
  obtain ⟨f1, f2, f3, f4, f5, f6⟩ := F
  have hE := a2 b (sh_live hb (by omega))
  rw [cE_o hb f6] at hE
  have hR := C.2.2.2.2.2.2.2.1
  refine call_go C (Qa := QP (kD x) (AA g) Post) (As := (Value.ref b :: As).toArray) a1 a3 a4 a5 (va_runV (Ts := TB) (As := As) (b := b) (C := Cn) ⟨C.1, C.2.1, C.2.2.2.2.2.1, C.2.2.1, C.2.2.2.1⟩ hct ⟨call_b C hm hl hf hlo, C.tb hi, C.tb hse⟩ ⟨PP_blind, va_recv C.2.2.2.2.1.1 (one_P hE) f1 (q0 := 0) rfl, PP_at C a1 a2 _⟩ rfl hn (a5.1.trans C.2.2.2.2.2.2.1) hst (by simpa using hW) d ⟨by rw [hR]; exact hc2, by rw [hR]; exact hs2⟩) k
theorem v_callS (C : Cx x cc own nL rm) {y : MethodName} {cc2 : ByteArray} {nL2 n idx : Nat} {ret2 : Option FieldType} {rm2 : Room} {As stk : List Value} (hct : Ct (kl x) y cc2 nL2 ret2 rm2 (kD x) As g I J Post) (hm : MW y cc2 nL2 ret2 n) (hi : Cond.static y ∈ TB) (hl : Cond.methodLink own idx y ∈ TB) (hn : As.length = n) (hst : stk = As.reverse ++ st) (hW : (st.map fun v => v.category).sum ≤ 8) (hf : rm2.frames + 1 ≤ rm.frames) (hlo : 8 + (nL2 + 11) + rm2.locals ≤ rm.locals) (hc2 : cells + rm2.cells ≤ rm.cells) (hs2 : slots + rm2.slots ≤ rm.slots) (d : decode cc pc = .ok (.invokestatic idx, 3))
    (k : ∀ (v : Option Value) (g2 : GM) (I2 : MI) (J2 : MJ), Post v g2 I2 J2 → V x g2 (cells + rm2.cells) (slots + rm2.slots) I2 J2 (pc + 3) lv (v.toList ++ st)) : V x g cells slots I J pc lv stk := fun H locs ls a1 a2 a3 a4 a5 => by
  have hR := C.2.2.2.2.2.2.2.1
  refine call_go C (Qa := QP (kD x) (AA g) Post) (As := As.toArray) a1 a3 a4 a5 (va_runS (Ts := TB) (As := As) ⟨C.1, C.2.1, C.2.2.2.2.2.1, C.2.2.1, C.2.2.2.1⟩ hct ⟨call_b C hm hl hf hlo, C.tb hi⟩ ⟨PP_blind, PP_at C a1 a2 _⟩ rfl hn (a5.1.trans C.2.2.2.2.2.2.1) hst (by simpa using hW) d ⟨by rw [hR]; exact hc2, by rw [hR]; exact hs2⟩) k
theorem v_callI (C : Cx x cc own nL rm) {y : MethodName} {cc2 : ByteArray} {nL2 n idx b : Nat} {rm2 : Room} {As stk : List Value} (hct : Ct (kl x) y cc2 nL2 none rm2 (kD x) (.ref b :: As) g I J Post) (hm : MW y cc2 nL2 none n) (hy : y.name = "<init>") (hi : Cond.instanceMethod y ∈ TB) (hl : Cond.methodLink own idx y ∈ TB) (hn : As.length = n) (hst : stk = As.reverse ++ .ref b :: st) (hW : (st.map fun v => v.category).sum ≤ 8) (hf : rm2.frames + 1 ≤ rm.frames) (hlo : 8 + (nL2 + 11) + rm2.locals ≤ rm.locals) (hc2 : cells + rm2.cells ≤ rm.cells) (hs2 : slots + rm2.slots ≤ rm.slots) (d : decode cc pc = .ok (.invokespecial idx, 3))
    (k : ∀ (v : Option Value) (g2 : GM) (I2 : MI) (J2 : MJ), Post v g2 I2 J2 → V x g2 (cells + rm2.cells) (slots + rm2.slots) I2 J2 (pc + 3) lv (v.toList ++ st)) : V x g cells slots I J pc lv stk := fun H locs ls a1 a2 a3 a4 a5 => by
  have hR := C.2.2.2.2.2.2.2.1
  refine call_go C (Qa := QP (kD x) (AA g) Post) (As := (Value.ref b :: As).toArray) a1 a3 a4 a5 (va_runI (Ts := TB) (As := As) (b := b) ⟨C.1, C.2.1, C.2.2.2.2.2.1, C.2.2.1, C.2.2.2.1⟩ hct ⟨call_b C hm hl hf hlo, hy, C.tb hi⟩ ⟨PP_blind, PP_at C a1 a2 _⟩ rfl hn (a5.1.trans C.2.2.2.2.2.2.1) hst (by simpa using hW) d ⟨by rw [hR]; exact hc2, by rw [hR]; exact hs2⟩) k
/-- Object's constructor -/
theorem v_objI (C : Cx x cc own nL rm) {idx a : Nat} (hl : Cond.methodLink own idx Lib.objectInit ∈ TB) (hf : 1 ≤ rm.frames) (hlo : (st.map fun v => v.category).sum + 12 ≤ rm.locals) (d : decode cc pc = .ok (.invokespecial idx, 3)) (k : V x g cells slots I J (pc + 3) lv st) : V x g cells slots I J pc lv (.ref a :: st) := fun H locs ls a1 a2 a3 a4 a5 => by
  have hR := C.2.2.2.2.2.2.2.1
  exact W.objInit C.1 C.2.1 C.2.2.1 (C.tb hl) (C.tb w21) (C.tb w22) rfl (by show ls.size = _; rw [a5.1, C.2.2.2.2.2.1]; exact C.2.2.2.2.2.2.1) rfl d (by rw [hR]; exact hf) (by rw [hR]; simpa using hlo) (k H locs ls a1 a2 a3 a4 a5)
end VC
end
section
theorem mwLH_init : MW yLH_init bLH_init 1 none 0 := ⟨w19, w1, ⟨by decide, by decide⟩, by decide +kernel⟩
theorem mwSp_init : MW ySp_init bSp_init 1 none 0 := ⟨w29, w2, ⟨by decide, by decide⟩, by decide +kernel⟩
theorem mwTa_init : MW yTa_init bTa_init 1 none 0 := ⟨w35, w3, ⟨by decide, by decide⟩, by decide +kernel⟩
theorem mwSt_init : MW ySt_init bSt_init 1 none 0 := ⟨w63, w4, ⟨by decide, by decide⟩, by decide +kernel⟩
theorem mwAr_fill : MW yAr_fill bAr_fill 4 none 2 := ⟨w110, w5, ⟨by decide, by decide⟩, by decide +kernel⟩
theorem mwLH_clear : MW yLH_clear bLH_clear 2 (some .int) 0 := ⟨w160, w1, ⟨by decide, by decide⟩, by decide +kernel⟩
theorem mwLH_events : MW yLH_events bLH_events 1 (some .int) 0 := ⟨w164, w1, ⟨by decide, by decide⟩, by decide +kernel⟩
theorem mwLH_linear : MW yLH_linear bLH_linear 4 (some .int) 0 := ⟨w168, w1, ⟨by decide, by decide⟩, by decide +kernel⟩
theorem mwLH_subjectOf : MW yLH_subjectOf bLH_subjectOf 2 (some (.object "LinearHistories$Subject")) 1 := ⟨w172, w1, ⟨by decide, by decide⟩, by decide +kernel⟩
theorem mwSu_learn : MW ySu_learn bSu_learn 2 none 1 := ⟨w244, w11, ⟨by decide, by decide⟩, by decide +kernel⟩
theorem mwSp_explore : MW ySp_explore bSp_explore 9 (some .boolean) 4 := ⟨w248, w2, ⟨by decide, by decide⟩, by decide +kernel⟩
theorem mwTa_makeEmpty : MW yTa_makeEmpty bTa_makeEmpty 1 none 0 := ⟨w252, w3, ⟨by decide, by decide⟩, by decide +kernel⟩
theorem mwTa_keep : MW yTa_keep bTa_keep 6 (some .int) 2 := ⟨w257, w3, ⟨by decide, by decide⟩, by decide +kernel⟩
theorem mwTa_chainOf : MW yTa_chainOf bTa_chainOf 4 (some .int) 2 := ⟨w261, w3, ⟨by decide, by decide⟩, by decide +kernel⟩
theorem mwTa_findIn : MW yTa_findIn bTa_findIn 7 (some .int) 3 := ⟨w267, w3, ⟨by decide, by decide⟩, by decide +kernel⟩
theorem mwSp_step : MW ySp_step bSp_step 8 (some .boolean) 3 := ⟨w271, w2, ⟨by decide, by decide⟩, by decide +kernel⟩
theorem mwSt_become : MW ySt_become bSt_become 4 none 2 := ⟨w276, w4, ⟨by decide, by decide⟩, by decide +kernel⟩
theorem mwSt_change : MW ySt_change bSt_change 4 none 3 := ⟨w280, w4, ⟨by decide, by decide⟩, by decide +kernel⟩
theorem mwSt_changeRegister : MW ySt_changeRegister bSt_changeRegister 3 (some .int) 1 := ⟨w284, w4, ⟨by decide, by decide⟩, by decide +kernel⟩
theorem mwSt_changeSet : MW ySt_changeSet bSt_changeSet 5 (some .int) 1 := ⟨w288, w4, ⟨by decide, by decide⟩, by decide +kernel⟩
theorem mwSt_changeMap : MW ySt_changeMap bSt_changeMap 5 (some .int) 2 := ⟨w293, w4, ⟨by decide, by decide⟩, by decide +kernel⟩
theorem mwSt_changeSequence : MW ySt_changeSequence bSt_changeSequence 4 (some .int) 3 := ⟨w299, w4, ⟨by decide, by decide⟩, by decide +kernel⟩
theorem mwSt_placeInHeap : MW ySt_placeInHeap bSt_placeInHeap 6 (some .int) 2 := ⟨w303, w4, ⟨by decide, by decide⟩, by decide +kernel⟩
theorem mwSt_insertAt : MW ySt_insertAt bSt_insertAt 8 none 2 := ⟨w307, w4, ⟨by decide, by decide⟩, by decide +kernel⟩
theorem mwSt_removeAt : MW ySt_removeAt bSt_removeAt 8 (some .int) 1 := ⟨w311, w4, ⟨by decide, by decide⟩, by decide +kernel⟩
theorem mwSp_keyBehind : MW ySp_keyBehind bSp_keyBehind 3 (some .int) 2 := ⟨w315, w2, ⟨by decide, by decide⟩, by decide +kernel⟩
theorem mwSp_waysToEnds : MW ySp_waysToEnds bSp_waysToEnds 4 (some .long) 0 := ⟨w319, w2, ⟨by decide, by decide⟩, by decide +kernel⟩
theorem mwSp_isEnd : MW ySp_isEnd bSp_isEnd 2 (some .boolean) 1 := ⟨w323, w2, ⟨by decide, by decide⟩, by decide +kernel⟩
theorem mwSp_statesAtEnds : MW ySp_statesAtEnds bSp_statesAtEnds 3 (some .int) 1 := ⟨w327, w2, ⟨by decide, by decide⟩, by decide +kernel⟩
theorem mwLH_object : MW yLH_object bLH_object 3 (some .int) 1 := ⟨w336, w1, ⟨by decide, by decide⟩, by decide +kernel⟩
theorem mwSu_init : MW ySu_init bSu_init 2 none 0 := ⟨w341, w11, ⟨by decide, by decide⟩, by decide +kernel⟩
theorem mwOp_init : MW yOp_init bOp_init 1 none 0 := ⟨w350, w12, ⟨by decide, by decide⟩, by decide +kernel⟩
theorem mwSu_begin : MW ySu_begin bSu_begin 2 none 1 := ⟨w452, w11, ⟨by decide, by decide⟩, by decide +kernel⟩
theorem mwSu_forget : MW ySu_forget bSu_forget 1 none 0 := ⟨w456, w11, ⟨by decide, by decide⟩, by decide +kernel⟩
theorem mwLH_call : MW yLH_call bLH_call 8 (some .int) 5 := ⟨w464, w1, ⟨by decide, by decide⟩, by decide +kernel⟩
theorem mwLH_checkProcess : MW yLH_checkProcess bLH_checkProcess 2 none 1 := ⟨w468, w1, ⟨by decide, by decide⟩, by decide +kernel⟩
theorem mwSu_operationsOfKind : MW ySu_operationsOfKind bSu_operationsOfKind 1 (some .int) 0 := ⟨w473, w11, ⟨by decide, by decide⟩, by decide +kernel⟩
theorem mwSu_addOperation : MW ySu_addOperation bSu_addOperation 6 none 4 := ⟨w494, w11, ⟨by decide, by decide⟩, by decide +kernel⟩
theorem mwSu_placesOf : MW ySu_placesOf bSu_placesOf 4 (some .int) 1 := ⟨w498, w11, ⟨by decide, by decide⟩, by decide +kernel⟩
theorem mwSu_numberOf : MW ySu_numberOf bSu_numberOf 2 (some .int) 1 := ⟨w502, w11, ⟨by decide, by decide⟩, by decide +kernel⟩
theorem mwSu_nameOf : MW ySu_nameOf bSu_nameOf 3 (some .int) 1 := ⟨w506, w11, ⟨by decide, by decide⟩, by decide +kernel⟩
theorem mwLH_back : MW yLH_back bLH_back 4 none 2 := ⟨w513, w1, ⟨by decide, by decide⟩, by decide +kernel⟩
theorem mwLH_operationOf : MW yLH_operationOf bLH_operationOf 2 (some .int) 1 := ⟨w517, w1, ⟨by decide, by decide⟩, by decide +kernel⟩
theorem mwSu_endOperation : MW ySu_endOperation bSu_endOperation 4 none 3 := ⟨w522, w11, ⟨by decide, by decide⟩, by decide +kernel⟩
theorem mwLH_lose : MW yLH_lose bLH_lose 2 none 1 := ⟨w529, w1, ⟨by decide, by decide⟩, by decide +kernel⟩
theorem mwLH_possibilities : MW yLH_possibilities bLH_possibilities 2 (some .int) 1 := ⟨w536, w1, ⟨by decide, by decide⟩, by decide +kernel⟩
theorem mwLH_learnedSubject : MW yLH_learnedSubject bLH_learnedSubject 3 (some (.object "LinearHistories$Subject")) 1 := ⟨w540, w1, ⟨by decide, by decide⟩, by decide +kernel⟩
theorem mwLH_judge : MW yLH_judge bLH_judge 2 (some .int) 1 := ⟨w547, w1, ⟨by decide, by decide⟩, by decide +kernel⟩
theorem mwLH_judgeOwn : MW yLH_judgeOwn bLH_judgeOwn 3 (some .int) 1 := ⟨w554, w1, ⟨by decide, by decide⟩, by decide +kernel⟩
theorem mwSu_learnOwn : MW ySu_learnOwn bSu_learnOwn 2 none 1 := ⟨w558, w11, ⟨by decide, by decide⟩, by decide +kernel⟩
theorem mwLH_ways : MW yLH_ways bLH_ways 2 (some .long) 1 := ⟨w565, w1, ⟨by decide, by decide⟩, by decide +kernel⟩
theorem mwLH_lasts : MW yLH_lasts bLH_lasts 2 (some .int) 1 := ⟨w572, w1, ⟨by decide, by decide⟩, by decide +kernel⟩
theorem mwLH_broken : MW yLH_broken bLH_broken 3 (some .int) 1 := ⟨w579, w1, ⟨by decide, by decide⟩, by decide +kernel⟩
theorem mwSu_learnBreak : MW ySu_learnBreak bSu_learnBreak 5 none 1 := ⟨w583, w11, ⟨by decide, by decide⟩, by decide +kernel⟩
theorem mwLH_length : MW yLH_length bLH_length 1 (some .int) 0 := ⟨w591, w1, ⟨by decide, by decide⟩, by decide +kernel⟩
theorem mwLH_checkLinear : MW yLH_checkLinear bLH_checkLinear 2 none 1 := ⟨w596, w1, ⟨by decide, by decide⟩, by decide +kernel⟩
theorem mwLH_buildRow : MW yLH_buildRow bLH_buildRow 4 none 0 := ⟨w601, w1, ⟨by decide, by decide⟩, by decide +kernel⟩
theorem mwSp_markHopeful : MW ySp_markHopeful bSp_markHopeful 6 none 1 := ⟨w605, w2, ⟨by decide, by decide⟩, by decide +kernel⟩
theorem mwSp_target : MW ySp_target bSp_target 4 (some .int) 3 := ⟨w609, w2, ⟨by decide, by decide⟩, by decide +kernel⟩
theorem mwTa_find : MW yTa_find bTa_find 4 (some .int) 2 := ⟨w613, w3, ⟨by decide, by decide⟩, by decide +kernel⟩
theorem mwLH_allAtEnds : MW yLH_allAtEnds bLH_allAtEnds 2 (some .boolean) 0 := ⟨w617, w1, ⟨by decide, by decide⟩, by decide +kernel⟩
theorem mwLH_placeNext : MW yLH_placeNext bLH_placeNext 8 (some .int) 1 := ⟨w622, w1, ⟨by decide, by decide⟩, by decide +kernel⟩
theorem mwLH_row : MW yLH_row bLH_row 2 (some .int) 1 := ⟨w632, w1, ⟨by decide, by decide⟩, by decide +kernel⟩
theorem mwLH_checkPlace : MW yLH_checkPlace bLH_checkPlace 2 none 1 := ⟨w636, w1, ⟨by decide, by decide⟩, by decide +kernel⟩
theorem mwLH_result : MW yLH_result bLH_result 2 (some .int) 1 := ⟨w659, w1, ⟨by decide, by decide⟩, by decide +kernel⟩
theorem mwMo_init : MW yMo_init bMo_init 1 none 0 := ⟨w664, w6, ⟨by decide, by decide⟩, by decide +kernel⟩
theorem mwMo_forget : MW yMo_forget bMo_forget 2 none 0 := ⟨w669, w6, ⟨by decide, by decide⟩, by decide +kernel⟩
theorem mwMo_change : MW yMo_change bMo_change 2 none 0 := ⟨w673, w6, ⟨by decide, by decide⟩, by decide +kernel⟩
theorem mwMo_thrown : MW yMo_thrown bMo_thrown 1 (some .int) 0 := ⟨w783, w6, ⟨by decide, by decide⟩, by decide +kernel⟩
theorem mwMo_object : MW yMo_object bMo_object 2 (some .int) 1 := ⟨w787, w6, ⟨by decide, by decide⟩, by decide +kernel⟩
theorem mwMo_call : MW yMo_call bMo_call 8 (some .int) 5 := ⟨w791, w6, ⟨by decide, by decide⟩, by decide +kernel⟩
theorem mwMo_noObject : MW yMo_noObject bMo_noObject 2 (some .boolean) 1 := ⟨w795, w6, ⟨by decide, by decide⟩, by decide +kernel⟩
theorem mwMo_back : MW yMo_back bMo_back 3 none 2 := ⟨w799, w6, ⟨by decide, by decide⟩, by decide +kernel⟩
theorem mwMo_isIdle : MW yMo_isIdle bMo_isIdle 2 (some .boolean) 1 := ⟨w803, w6, ⟨by decide, by decide⟩, by decide +kernel⟩
theorem mwMo_lose : MW yMo_lose bMo_lose 2 none 1 := ⟨w807, w6, ⟨by decide, by decide⟩, by decide +kernel⟩
theorem mwMo_clear : MW yMo_clear bMo_clear 2 (some .int) 0 := ⟨w811, w6, ⟨by decide, by decide⟩, by decide +kernel⟩
theorem mwMo_events : MW yMo_events bMo_events 1 (some .int) 0 := ⟨w815, w6, ⟨by decide, by decide⟩, by decide +kernel⟩
theorem mwMo_possibilities : MW yMo_possibilities bMo_possibilities 2 (some .int) 1 := ⟨w819, w6, ⟨by decide, by decide⟩, by decide +kernel⟩
theorem mwMo_look : MW yMo_look bMo_look 7 none 1 := ⟨w823, w6, ⟨by decide, by decide⟩, by decide +kernel⟩
theorem mwMo_gather : MW yMo_gather bMo_gather 10 (some .int) 4 := ⟨w827, w6, ⟨by decide, by decide⟩, by decide +kernel⟩
theorem mwMo_can : MW yMo_can bMo_can 8 (some .boolean) 5 := ⟨w831, w6, ⟨by decide, by decide⟩, by decide +kernel⟩
theorem mwMo_isBefore : MW yMo_isBefore bMo_isBefore 5 (some .boolean) 4 := ⟨w835, w6, ⟨by decide, by decide⟩, by decide +kernel⟩
theorem mwMo_isBack : MW yMo_isBack bMo_isBack 3 (some .boolean) 2 := ⟨w839, w6, ⟨by decide, by decide⟩, by decide +kernel⟩
theorem mwMo_doIt : MW yMo_doIt bMo_doIt 5 none 3 := ⟨w843, w6, ⟨by decide, by decide⟩, by decide +kernel⟩
theorem mwMo_doRegister : MW yMo_doRegister bMo_doRegister 5 none 3 := ⟨w847, w6, ⟨by decide, by decide⟩, by decide +kernel⟩
theorem mwMo_doSet : MW yMo_doSet bMo_doSet 7 none 3 := ⟨w851, w6, ⟨by decide, by decide⟩, by decide +kernel⟩
theorem mwMo_likeFirst : MW yMo_likeFirst bMo_likeFirst 4 (some .int) 2 := ⟨w855, w6, ⟨by decide, by decide⟩, by decide +kernel⟩
theorem mwMo_doMap : MW yMo_doMap bMo_doMap 7 none 3 := ⟨w860, w6, ⟨by decide, by decide⟩, by decide +kernel⟩
theorem mwMo_likeSecond : MW yMo_likeSecond bMo_likeSecond 4 (some .int) 2 := ⟨w866, w6, ⟨by decide, by decide⟩, by decide +kernel⟩
theorem mwMo_doRow : MW yMo_doRow bMo_doRow 11 none 3 := ⟨w870, w6, ⟨by decide, by decide⟩, by decide +kernel⟩
theorem mwMo_thing : MW yMo_thing bMo_thing 3 (some .int) 2 := ⟨w873, w6, ⟨by decide, by decide⟩, by decide +kernel⟩
theorem mwMo_search : MW yMo_search bMo_search 5 (some .int) 3 := ⟨w879, w6, ⟨by decide, by decide⟩, by decide +kernel⟩
theorem mwMo_judgeOf : MW yMo_judgeOf bMo_judgeOf 6 (some .int) 4 := ⟨w883, w6, ⟨by decide, by decide⟩, by decide +kernel⟩
theorem mwMo_isEnd : MW yMo_isEnd bMo_isEnd 5 (some .boolean) 3 := ⟨w887, w6, ⟨by decide, by decide⟩, by decide +kernel⟩
theorem mwMo_judge : MW yMo_judge bMo_judge 2 (some .int) 1 := ⟨w892, w6, ⟨by decide, by decide⟩, by decide +kernel⟩
theorem mwMo_judgeOwn : MW yMo_judgeOwn bMo_judgeOwn 3 (some .int) 1 := ⟨w896, w6, ⟨by decide, by decide⟩, by decide +kernel⟩
theorem mwMo_ways : MW yMo_ways bMo_ways 2 (some .long) 1 := ⟨w900, w6, ⟨by decide, by decide⟩, by decide +kernel⟩
theorem mwMo_lasts : MW yMo_lasts bMo_lasts 2 (some .int) 1 := ⟨w904, w6, ⟨by decide, by decide⟩, by decide +kernel⟩
theorem mwMo_broken : MW yMo_broken bMo_broken 4 (some .int) 1 := ⟨w908, w6, ⟨by decide, by decide⟩, by decide +kernel⟩
theorem mwMo_isTouched : MW yMo_isTouched bMo_isTouched 5 (some .boolean) 2 := ⟨w912, w6, ⟨by decide, by decide⟩, by decide +kernel⟩
theorem mwMo_linear : MW yMo_linear bMo_linear 1 (some .int) 0 := ⟨w916, w6, ⟨by decide, by decide⟩, by decide +kernel⟩
theorem mwMo_linearity : MW yMo_linearity bMo_linearity 3 (some .int) 0 := ⟨w920, w6, ⟨by decide, by decide⟩, by decide +kernel⟩
theorem mwMo_length : MW yMo_length bMo_length 1 (some .int) 0 := ⟨w924, w6, ⟨by decide, by decide⟩, by decide +kernel⟩
theorem mwMo_lay : MW yMo_lay bMo_lay 2 (some .boolean) 0 := ⟨w928, w6, ⟨by decide, by decide⟩, by decide +kernel⟩
theorem mwMo_enliven : MW yMo_enliven bMo_enliven 6 none 1 := ⟨w932, w6, ⟨by decide, by decide⟩, by decide +kernel⟩
theorem mwMo_isWhole : MW yMo_isWhole bMo_isWhole 2 (some .boolean) 0 := ⟨w936, w6, ⟨by decide, by decide⟩, by decide +kernel⟩
theorem mwMo_goesOn : MW yMo_goesOn bMo_goesOn 6 (some .boolean) 1 := ⟨w940, w6, ⟨by decide, by decide⟩, by decide +kernel⟩
theorem mwMo_isDone : MW yMo_isDone bMo_isDone 4 (some .boolean) 1 := ⟨w944, w6, ⟨by decide, by decide⟩, by decide +kernel⟩
theorem mwMo_row : MW yMo_row bMo_row 2 (some .int) 1 := ⟨w948, w6, ⟨by decide, by decide⟩, by decide +kernel⟩
theorem mwMo_result : MW yMo_result bMo_result 2 (some .int) 1 := ⟨w952, w6, ⟨by decide, by decide⟩, by decide +kernel⟩
/-- a contract that says the end as a function of the start -/
def PF (rv : Option Value) (g : GM) (I1 : MI) (J1 : MJ) : Option Value → GM → MI → MJ → Prop := fun v g2 I2 J2 => v = rv ∧ g2 = g ∧ I2 = I1 ∧ J2 = J1
section VF
variable {x : KX} {cc : ByteArray} {own : String} {nL : Nat} {rm : Room} {g : GM} {cells slots : Nat} {I I1 : MI} {J J1 : MJ} {pc : Nat} {lv : List (Option Value)} {st : List Value}
theorem v_cVv (C : Cx x cc own nL rm) {y : MethodName} {cc2 : ByteArray} {nL2 n idx b ci m2 N : Nat} {ret2 : Option FieldType} {rm2 : Room} {As stk : List Value} {Cn : String} {T : u_T} {ty : Nat → FieldType} (hct : Ct (kl x) y cc2 nL2 ret2 rm2 (kD x) (.ref b :: As) g I J (PF none g I1 J1)) (hm : MW y cc2 nL2 ret2 n) (F : CF ci Cn T N ty) (hb : g.1 b = (ci, m2)) (hi : Cond.instanceMethod y ∈ TB) (hse : Cond.selects Cn y y ∈ TB) (hl : Cond.methodLink own idx y ∈ TB) (hn : As.length = n) (hst : stk = As.reverse ++ .ref b :: st) (hW : (st.map fun v => v.category).sum ≤ 8) (hf : rm2.frames + 1 ≤ rm.frames) (hlo : 8 + (nL2 + 11) + rm2.locals ≤ rm.locals) (hc2 : cells + rm2.cells ≤ rm.cells) (hs2 : slots + rm2.slots ≤ rm.slots) (d : decode cc pc = .ok (.invokevirtual idx, 3)) (k : V x g (cells + rm2.cells) (slots + rm2.slots) I1 J1 (pc + 3) lv (st)) : V x g cells slots I J pc lv stk := v_callV C hct hm F hb hi hse hl hn hst hW hf hlo hc2 hs2 d (fun v g2 I2 J2 h => by obtain ⟨rfl, rfl, rfl, rfl⟩ := h; exact k)
theorem v_cSv (C : Cx x cc own nL rm) {y : MethodName} {cc2 : ByteArray} {nL2 n idx : Nat} {ret2 : Option FieldType} {rm2 : Room} {As stk : List Value} (hct : Ct (kl x) y cc2 nL2 ret2 rm2 (kD x) As g I J (PF none g I1 J1)) (hm : MW y cc2 nL2 ret2 n) (hi : Cond.static y ∈ TB) (hl : Cond.methodLink own idx y ∈ TB) (hn : As.length = n) (hst : stk = As.reverse ++ st) (hW : (st.map fun v => v.category).sum ≤ 8) (hf : rm2.frames + 1 ≤ rm.frames) (hlo : 8 + (nL2 + 11) + rm2.locals ≤ rm.locals) (hc2 : cells + rm2.cells ≤ rm.cells) (hs2 : slots + rm2.slots ≤ rm.slots) (d : decode cc pc = .ok (.invokestatic idx, 3)) (k : V x g (cells + rm2.cells) (slots + rm2.slots) I1 J1 (pc + 3) lv (st)) : V x g cells slots I J pc lv stk := v_callS C hct hm hi hl hn hst hW hf hlo hc2 hs2 d (fun v g2 I2 J2 h => by obtain ⟨rfl, rfl, rfl, rfl⟩ := h; exact k)
theorem v_cVi (C : Cx x cc own nL rm) {z : Int32} {y : MethodName} {cc2 : ByteArray} {nL2 n idx b ci m2 N : Nat} {ret2 : Option FieldType} {rm2 : Room} {As stk : List Value} {Cn : String} {T : u_T} {ty : Nat → FieldType} (hct : Ct (kl x) y cc2 nL2 ret2 rm2 (kD x) (.ref b :: As) g I J (PF (some (.int z)) g I1 J1)) (hm : MW y cc2 nL2 ret2 n) (F : CF ci Cn T N ty) (hb : g.1 b = (ci, m2)) (hi : Cond.instanceMethod y ∈ TB) (hse : Cond.selects Cn y y ∈ TB) (hl : Cond.methodLink own idx y ∈ TB) (hn : As.length = n) (hst : stk = As.reverse ++ .ref b :: st) (hW : (st.map fun v => v.category).sum ≤ 8) (hf : rm2.frames + 1 ≤ rm.frames) (hlo : 8 + (nL2 + 11) + rm2.locals ≤ rm.locals) (hc2 : cells + rm2.cells ≤ rm.cells) (hs2 : slots + rm2.slots ≤ rm.slots) (d : decode cc pc = .ok (.invokevirtual idx, 3)) (k : V x g (cells + rm2.cells) (slots + rm2.slots) I1 J1 (pc + 3) lv (.int z :: st)) : V x g cells slots I J pc lv stk := v_callV C hct hm F hb hi hse hl hn hst hW hf hlo hc2 hs2 d (fun v g2 I2 J2 h => by obtain ⟨rfl, rfl, rfl, rfl⟩ := h; exact k)
theorem v_cSi (C : Cx x cc own nL rm) {z : Int32} {y : MethodName} {cc2 : ByteArray} {nL2 n idx : Nat} {ret2 : Option FieldType} {rm2 : Room} {As stk : List Value} (hct : Ct (kl x) y cc2 nL2 ret2 rm2 (kD x) As g I J (PF (some (.int z)) g I1 J1)) (hm : MW y cc2 nL2 ret2 n) (hi : Cond.static y ∈ TB) (hl : Cond.methodLink own idx y ∈ TB) (hn : As.length = n) (hst : stk = As.reverse ++ st) (hW : (st.map fun v => v.category).sum ≤ 8) (hf : rm2.frames + 1 ≤ rm.frames) (hlo : 8 + (nL2 + 11) + rm2.locals ≤ rm.locals) (hc2 : cells + rm2.cells ≤ rm.cells) (hs2 : slots + rm2.slots ≤ rm.slots) (d : decode cc pc = .ok (.invokestatic idx, 3)) (k : V x g (cells + rm2.cells) (slots + rm2.slots) I1 J1 (pc + 3) lv (.int z :: st)) : V x g cells slots I J pc lv stk := v_callS C hct hm hi hl hn hst hW hf hlo hc2 hs2 d (fun v g2 I2 J2 h => by obtain ⟨rfl, rfl, rfl, rfl⟩ := h; exact k)
theorem v_cVl (C : Cx x cc own nL rm) {z : Int64} {y : MethodName} {cc2 : ByteArray} {nL2 n idx b ci m2 N : Nat} {ret2 : Option FieldType} {rm2 : Room} {As stk : List Value} {Cn : String} {T : u_T} {ty : Nat → FieldType} (hct : Ct (kl x) y cc2 nL2 ret2 rm2 (kD x) (.ref b :: As) g I J (PF (some (.long z)) g I1 J1)) (hm : MW y cc2 nL2 ret2 n) (F : CF ci Cn T N ty) (hb : g.1 b = (ci, m2)) (hi : Cond.instanceMethod y ∈ TB) (hse : Cond.selects Cn y y ∈ TB) (hl : Cond.methodLink own idx y ∈ TB) (hn : As.length = n) (hst : stk = As.reverse ++ .ref b :: st) (hW : (st.map fun v => v.category).sum ≤ 8) (hf : rm2.frames + 1 ≤ rm.frames) (hlo : 8 + (nL2 + 11) + rm2.locals ≤ rm.locals) (hc2 : cells + rm2.cells ≤ rm.cells) (hs2 : slots + rm2.slots ≤ rm.slots) (d : decode cc pc = .ok (.invokevirtual idx, 3)) (k : V x g (cells + rm2.cells) (slots + rm2.slots) I1 J1 (pc + 3) lv (.long z :: st)) : V x g cells slots I J pc lv stk := v_callV C hct hm F hb hi hse hl hn hst hW hf hlo hc2 hs2 d (fun v g2 I2 J2 h => by obtain ⟨rfl, rfl, rfl, rfl⟩ := h; exact k)
theorem v_cSl (C : Cx x cc own nL rm) {z : Int64} {y : MethodName} {cc2 : ByteArray} {nL2 n idx : Nat} {ret2 : Option FieldType} {rm2 : Room} {As stk : List Value} (hct : Ct (kl x) y cc2 nL2 ret2 rm2 (kD x) As g I J (PF (some (.long z)) g I1 J1)) (hm : MW y cc2 nL2 ret2 n) (hi : Cond.static y ∈ TB) (hl : Cond.methodLink own idx y ∈ TB) (hn : As.length = n) (hst : stk = As.reverse ++ st) (hW : (st.map fun v => v.category).sum ≤ 8) (hf : rm2.frames + 1 ≤ rm.frames) (hlo : 8 + (nL2 + 11) + rm2.locals ≤ rm.locals) (hc2 : cells + rm2.cells ≤ rm.cells) (hs2 : slots + rm2.slots ≤ rm.slots) (d : decode cc pc = .ok (.invokestatic idx, 3)) (k : V x g (cells + rm2.cells) (slots + rm2.slots) I1 J1 (pc + 3) lv (.long z :: st)) : V x g cells slots I J pc lv stk := v_callS C hct hm hi hl hn hst hW hf hlo hc2 hs2 d (fun v g2 I2 J2 h => by obtain ⟨rfl, rfl, rfl, rfl⟩ := h; exact k)
theorem v_cVr (C : Cx x cc own nL rm) {z : Nat} {y : MethodName} {cc2 : ByteArray} {nL2 n idx b ci m2 N : Nat} {ret2 : Option FieldType} {rm2 : Room} {As stk : List Value} {Cn : String} {T : u_T} {ty : Nat → FieldType} (hct : Ct (kl x) y cc2 nL2 ret2 rm2 (kD x) (.ref b :: As) g I J (PF (some (.ref z)) g I1 J1)) (hm : MW y cc2 nL2 ret2 n) (F : CF ci Cn T N ty) (hb : g.1 b = (ci, m2)) (hi : Cond.instanceMethod y ∈ TB) (hse : Cond.selects Cn y y ∈ TB) (hl : Cond.methodLink own idx y ∈ TB) (hn : As.length = n) (hst : stk = As.reverse ++ .ref b :: st) (hW : (st.map fun v => v.category).sum ≤ 8) (hf : rm2.frames + 1 ≤ rm.frames) (hlo : 8 + (nL2 + 11) + rm2.locals ≤ rm.locals) (hc2 : cells + rm2.cells ≤ rm.cells) (hs2 : slots + rm2.slots ≤ rm.slots) (d : decode cc pc = .ok (.invokevirtual idx, 3)) (k : V x g (cells + rm2.cells) (slots + rm2.slots) I1 J1 (pc + 3) lv (.ref z :: st)) : V x g cells slots I J pc lv stk := v_callV C hct hm F hb hi hse hl hn hst hW hf hlo hc2 hs2 d (fun v g2 I2 J2 h => by obtain ⟨rfl, rfl, rfl, rfl⟩ := h; exact k)
theorem v_cSr (C : Cx x cc own nL rm) {z : Nat} {y : MethodName} {cc2 : ByteArray} {nL2 n idx : Nat} {ret2 : Option FieldType} {rm2 : Room} {As stk : List Value} (hct : Ct (kl x) y cc2 nL2 ret2 rm2 (kD x) As g I J (PF (some (.ref z)) g I1 J1)) (hm : MW y cc2 nL2 ret2 n) (hi : Cond.static y ∈ TB) (hl : Cond.methodLink own idx y ∈ TB) (hn : As.length = n) (hst : stk = As.reverse ++ st) (hW : (st.map fun v => v.category).sum ≤ 8) (hf : rm2.frames + 1 ≤ rm.frames) (hlo : 8 + (nL2 + 11) + rm2.locals ≤ rm.locals) (hc2 : cells + rm2.cells ≤ rm.cells) (hs2 : slots + rm2.slots ≤ rm.slots) (d : decode cc pc = .ok (.invokestatic idx, 3)) (k : V x g (cells + rm2.cells) (slots + rm2.slots) I1 J1 (pc + 3) lv (.ref z :: st)) : V x g cells slots I J pc lv stk := v_callS C hct hm hi hl hn hst hW hf hlo hc2 hs2 d (fun v g2 I2 J2 h => by obtain ⟨rfl, rfl, rfl, rfl⟩ := h; exact k)
end VF
theorem ble {a b : Nat} (h : Nat.ble a b = true) : a ≤ b := Nat.le_of_ble_eq_true h
end
section
/-! ===== Int32 by its bits: bt x i ===== -/
def bt (x : Int32) (i : Nat) : Bool := x.toBitVec.getLsbD i
theorem b_ext {x y : Int32} (h : ∀ i, i < 32 → bt x i = bt y i) : x = y := Int32.toBitVec_inj.mp (BitVec.eq_of_getLsbD_eq (fun i hi => h i hi))
theorem b_or (x y : Int32) (i : Nat) : bt (x ||| y) i = (bt x i || bt y i) := by unfold bt; rw [Int32.toBitVec_or, BitVec.getLsbD_or]
theorem b_and (x y : Int32) (i : Nat) : bt (x &&& y) i = (bt x i && bt y i) := by unfold bt; rw [Int32.toBitVec_and, BitVec.getLsbD_and]
theorem b_xor (x y : Int32) (i : Nat) : bt (x ^^^ y) i = (bt x i ^^ bt y i) := by unfold bt; rw [Int32.toBitVec_xor, BitVec.getLsbD_xor]
theorem b_big {x : Int32} {i : Nat} (h : 32 ≤ i) : bt x i = false := BitVec.getLsbD_of_ge _ _ h
theorem b_255 (i : Nat) : bt 255 i = decide (i < 8) := by
  rcases Nat.lt_or_ge i 32 with h | h
  · exact (by decide +kernel : ∀ i, i < 32 → bt 255 i = decide (i < 8)) i h
  · rw [b_big h, decide_eq_false (by omega)]
theorem b_65535 (i : Nat) : bt 65535 i = decide (i < 16) := by
  rcases Nat.lt_or_ge i 32 with h | h
  · exact (by decide +kernel : ∀ i, i < 32 → bt 65535 i = decide (i < 16)) i h
  · rw [b_big h, decide_eq_false (by omega)]
theorem b_m1 : ∀ i, i < 32 → bt (-1) i = true := by decide +kernel
theorem b_0 (i : Nat) : bt 0 i = false := BitVec.getLsbD_zero
theorem s_l : ∀ n, n < 32 → ((nI n &&& 31).toBitVec.smod 32).toNat = n := by decide +kernel
theorem s_u : ∀ n, n < 32 → (((nI n).toUInt32 &&& Int32.toUInt32 31).toBitVec % 32).toNat = n := by decide +kernel
theorem b_shl (n : Nat) (hn : n < 32) (x : Int32) {i : Nat} (hi : i < 32) : bt (x <<< (nI n &&& 31)) i = (decide (n ≤ i) && bt x (i - n)) := by
  unfold bt
  rw [Int32.toBitVec_shiftLeft]
  show (x.toBitVec <<< ((nI n &&& 31).toBitVec.smod 32).toNat).getLsbD i = _
  rw [s_l n hn, BitVec.getLsbD_shiftLeft]
  rcases Nat.lt_or_ge i n with h | h
  · simp [h, Nat.not_le.mpr h]
  · simp [hi, h, Nat.not_lt.mpr h]
theorem b_ushr (n : Nat) (hn : n < 32) (x : Int32) (i : Nat) : bt ((x.toUInt32 >>> ((nI n).toUInt32 &&& Int32.toUInt32 31)).toInt32) i = bt x (n + i) := by
  show (x.toUInt32 >>> ((nI n).toUInt32 &&& Int32.toUInt32 31)).toBitVec.getLsbD i = x.toUInt32.toBitVec.getLsbD (n + i)
  rw [UInt32.toBitVec_shiftRight]
  show (x.toUInt32.toBitVec >>> (((nI n).toUInt32 &&& Int32.toUInt32 31).toBitVec % 32).toNat).getLsbD i = _
  rw [s_u n hn, BitVec.getLsbD_ushiftRight]
theorem b_sshr (n : Nat) (hn : n < 32) (x : Int32) {i : Nat} (hi : i < 32) : bt (x >>> (nI n &&& 31)) i = if n + i < 32 then bt x (n + i) else bt x 31 := by
  unfold bt
  rw [Int32.toBitVec_shiftRight]
  show (x.toBitVec.sshiftRight ((nI n &&& 31).toBitVec.smod 32).toNat).getLsbD i = _
  rw [s_l n hn, BitVec.getLsbD_sshiftRight, BitVec.msb_eq_getLsbD_last]
  simp [hi]
theorem b_shl8 (x : Int32) {i : Nat} (hi : i < 32) : bt (x <<< ((8 : Int32) &&& 31)) i = (decide (8 ≤ i) && bt x (i - 8)) := b_shl 8 (by omega) x hi
theorem b_shl16 (x : Int32) {i : Nat} (hi : i < 32) : bt (x <<< ((16 : Int32) &&& 31)) i = (decide (16 ≤ i) && bt x (i - 16)) := b_shl 16 (by omega) x hi
theorem b_shl24 (x : Int32) {i : Nat} (hi : i < 32) : bt (x <<< ((24 : Int32) &&& 31)) i = (decide (24 ≤ i) && bt x (i - 24)) := b_shl 24 (by omega) x hi
theorem b_sshr8 (x : Int32) {i : Nat} (hi : i < 32) : bt (x >>> ((8 : Int32) &&& 31)) i = if 8 + i < 32 then bt x (8 + i) else bt x 31 := b_sshr 8 (by omega) x hi
/-! ===== nI under and, xor, >>>, one bit, 65535 ===== -/
theorem nx_and (a b : Nat) : nI a &&& nI b = nI (a &&& b) := by
  apply Int32.toBitVec_inj.1
  show BitVec.ofNat 32 a &&& BitVec.ofNat 32 b = BitVec.ofNat 32 (a &&& b)
  apply BitVec.eq_of_getLsbD_eq
  intro i hi
  simp [hi]
theorem nx_xor (a b : Nat) : nI a ^^^ nI b = nI (a ^^^ b) := by
  apply Int32.toBitVec_inj.1
  show BitVec.ofNat 32 a ^^^ BitVec.ofNat 32 b = BitVec.ofNat 32 (a ^^^ b)
  apply BitVec.eq_of_getLsbD_eq
  intro i hi
  simp [hi]
theorem nx_cnt : ∀ j : Fin 32, (UInt32.ofNat j.val &&& Int32.toUInt32 31).toNat % 32 = j.val := by decide +kernel
theorem nx_ush {k j : Nat} (hk : k < 65536) (hj : j < 32) : ((nI k).toUInt32 >>> ((nI j).toUInt32 &&& Int32.toUInt32 31)).toInt32 = nI (k >>> j) := by
  have hs : k >>> j ≤ k := by
    rw [Nat.shiftRight_eq_div_pow]
    exact Nat.div_le_self _ _
  have e2 : UInt32.ofNat k >>> (UInt32.ofNat j &&& Int32.toUInt32 31) = UInt32.ofNat (k >>> j) := by
    apply UInt32.toNat_inj.1
    have h1 : (UInt32.ofNat k).toNat = k := Nat.mod_eq_of_lt (by omega)
    have h2 : (UInt32.ofNat (k >>> j)).toNat = k >>> j := Nat.mod_eq_of_lt (by omega)
    rw [UInt32.toNat_shiftRight, nx_cnt ⟨j, hj⟩, h1, h2]
  show (UInt32.ofNat k >>> (UInt32.ofNat j &&& Int32.toUInt32 31)).toInt32 = _
  rw [e2]
  rfl
theorem nx_bit {k j : Nat} (hk : k < 65536) (hj : j < 16) : (((nI k).toUInt32 >>> ((nI j).toUInt32 &&& Int32.toUInt32 31)).toInt32 &&& 1) = 0 ↔ k.testBit j = false := by
  rw [nx_ush hk (by omega)]
  show nI (k >>> j) &&& nI 1 = 0 ↔ _
  rw [nx_and, Nat.and_one_is_mod, ← nI_0, nI_eq (by omega) (by omega), Nat.testBit_eq_decide_div_mod_eq, Nat.shiftRight_eq_div_pow, decide_eq_false_iff_not]
  generalize k / 2 ^ j = z
  omega
theorem nx_mod (k : Nat) : nI k &&& 65535 = nI (k % 65536) := by
  show nI k &&& nI 65535 = _
  rw [nx_and, show (65535 : Nat) = 2 ^ 16 - 1 from rfl, Nat.and_two_pow_sub_one_eq_mod]
theorem nx_m16 {k : Nat} (h : k < 65536) : nI k &&& 65535 = nI k := by rw [nx_mod, Nat.mod_eq_of_lt h]
theorem nx_mask (x : Int32) : ∃ k, k < 65536 ∧ x &&& 65535 = nI k := by
  have e : x = nI x.toBitVec.toNat := by
    apply Int32.toBitVec_inj.1
    show x.toBitVec = BitVec.ofNat 32 x.toBitVec.toNat
    simp
  refine ⟨x.toBitVec.toNat % 65536, Nat.mod_lt _ (by omega), ?_⟩
  rw [← nx_mod, ← e]
/-! ===== lN n to 2^64: shifts, and, or, masks, one bit ===== -/
theorem wb_tb (n : Nat) : (lN n).toBitVec = BitVec.ofNat 64 n := rfl
theorem wb_inj {a b : Int64} (h : a.toBitVec = b.toBitVec) : a = b := Int64.toBitVec_inj.mp h
theorem wb_tn {n : Nat} (h : n < 2 ^ 64) : (lN n).toBitVec.toNat = n := by rw [wb_tb, BitVec.toNat_ofNat, Nat.mod_eq_of_lt h]
theorem wb_of (x : Int64) : ∃ n, n < 2 ^ 64 ∧ x = lN n := ⟨x.toBitVec.toNat, x.toBitVec.isLt, wb_inj (by rw [wb_tb]; simp)⟩
theorem wb_of32 (x : Int32) : ∃ n, n < 2 ^ 32 ∧ x = nI n := ⟨x.toBitVec.toNat, x.toBitVec.isLt, Int32.toBitVec_inj.mp (by show _ = BitVec.ofNat 32 _; simp)⟩
theorem wb_c : ∀ k, k < 64 → ((nI k).toInt64 &&& 63) = lN k := by decide +kernel
theorem wb_cu : ∀ k, k < 64 → ((nI k).toInt64.toUInt64 &&& Int64.toUInt64 63) = UInt64.ofNat k := by decide +kernel
theorem wb_sm : ∀ k, k < 64 → (BitVec.ofNat 64 k).smod 64 = BitVec.ofNat 64 k := by decide +kernel
theorem wb_pw {a b : Nat} (h : a ≤ b) : 2 ^ b = 2 ^ a * 2 ^ (b - a) := by rw [← Nat.pow_add]; congr 1; omega
theorem wb_lt2 {a b : Nat} (h : a < b) : 2 ^ a < 2 ^ b := Nat.pow_lt_pow_right (by decide) h
theorem wb_mod (n : Nat) : lN n = lN (n % 2 ^ 64) := wb_inj (by rw [wb_tb, wb_tb]; apply BitVec.eq_of_toNat_eq; rw [BitVec.toNat_ofNat, BitVec.toNat_ofNat, Nat.mod_mod])
theorem wb_shr {n k : Nat} (hn : n < 2 ^ 64) (hk : k < 64) : ((lN n).toUInt64 >>> ((nI k).toInt64.toUInt64 &&& Int64.toUInt64 63)).toInt64 = lN (n / 2 ^ k) := by
  rw [wb_cu k hk]
  apply wb_inj
  apply BitVec.eq_of_toNat_eq
  show ((lN n).toUInt64 >>> UInt64.ofNat k).toNat = (BitVec.ofNat 64 _).toNat
  have h1 : (UInt64.ofNat k).toNat = k := by
    show (BitVec.ofNat 64 k).toNat = k
    rw [BitVec.toNat_ofNat, Nat.mod_eq_of_lt (by omega)]
  have h2 : (lN n).toUInt64.toNat = n := wb_tn hn
  rw [UInt64.toNat_shiftRight, h1, h2, Nat.mod_eq_of_lt hk, Nat.shiftRight_eq_div_pow, BitVec.toNat_ofNat, Nat.mod_eq_of_lt (Nat.lt_of_le_of_lt (Nat.div_le_self _ _) hn)]
theorem wb_shl (n : Nat) {k : Nat} (hk : k < 64) : lN n <<< ((nI k).toInt64 &&& 63) = lN (n * 2 ^ k) := by
  rw [wb_c k hk]
  apply wb_inj
  rw [Int64.toBitVec_shiftLeft, wb_tb, wb_tb, wb_tb, wb_sm k hk]
  apply BitVec.eq_of_toNat_eq
  rw [BitVec.shiftLeft_eq', BitVec.toNat_shiftLeft, BitVec.toNat_ofNat, BitVec.toNat_ofNat, BitVec.toNat_ofNat, Nat.mod_eq_of_lt (show k < 2 ^ 64 by omega), Nat.shiftLeft_eq, Nat.mul_mod, Nat.mod_mod, ← Nat.mul_mod]
theorem wb_and {a b : Nat} (ha : a < 2 ^ 64) (hb : b < 2 ^ 64) : lN a &&& lN b = lN (a &&& b) := by
  apply wb_inj
  rw [Int64.toBitVec_and, wb_tb, wb_tb, wb_tb]
  apply BitVec.eq_of_toNat_eq
  rw [BitVec.toNat_and, BitVec.toNat_ofNat, BitVec.toNat_ofNat, BitVec.toNat_ofNat, Nat.mod_eq_of_lt ha, Nat.mod_eq_of_lt hb, Nat.mod_eq_of_lt (Nat.and_lt_two_pow _ hb)]
theorem wb_or {a b : Nat} (ha : a < 2 ^ 64) (hb : b < 2 ^ 64) : lN a ||| lN b = lN (a ||| b) := by
  apply wb_inj
  rw [Int64.toBitVec_or, wb_tb, wb_tb, wb_tb]
  apply BitVec.eq_of_toNat_eq
  rw [BitVec.toNat_or, BitVec.toNat_ofNat, BitVec.toNat_ofNat, BitVec.toNat_ofNat, Nat.mod_eq_of_lt ha, Nat.mod_eq_of_lt hb, Nat.mod_eq_of_lt (Nat.or_lt_two_pow ha hb)]
theorem wb_mask {n k : Nat} (hn : n < 2 ^ 64) (hk : k < 64) : lN n &&& lN (2 ^ k - 1) = lN (n % 2 ^ k) := by
  rw [wb_and hn (by have := wb_lt2 hk; omega), Nat.and_two_pow_sub_one_eq_mod]
theorem wb_a1 {n : Nat} (hn : n < 2 ^ 64) : lN n &&& 1 = lN (n % 2) := wb_mask (k := 1) hn (by decide)
theorem wb_bit {n k : Nat} (hn : n < 2 ^ 64) (hk : k < 64) : ((lN n).toUInt64 >>> ((nI k).toInt64.toUInt64 &&& Int64.toUInt64 63)).toInt64 &&& 1 = lN (n / 2 ^ k % 2) := by
  rw [wb_shr hn hk, wb_a1 (Nat.lt_of_le_of_lt (Nat.div_le_self _ _) hn)]
theorem wb_xor {q k : Nat} (hk : k < 63) (h : 2 ^ k ≤ q) (h2 : q < 2 ^ (k + 1)) : lN q ^^^ lN (2 ^ k) = lN (q - 2 ^ k) := by
  obtain ⟨r, rfl⟩ : ∃ r, q = 2 ^ k + r := ⟨q - 2 ^ k, by omega⟩
  have hr : r < 2 ^ k := by rw [Nat.pow_succ] at h2; omega
  have hx : (2 ^ k + r) ^^^ 2 ^ k = r := by
    apply Nat.eq_of_testBit_eq
    intro i
    rw [Nat.testBit_xor, Nat.testBit_two_pow]
    rcases Nat.lt_trichotomy i k with h | h | h
    · rw [Nat.testBit_two_pow_add_gt h]
      simp [show ¬ k = i by omega]
    · subst h
      rw [Nat.testBit_two_pow_add_eq]
      simp
    · have a1 : 2 ^ (k + 1) ≤ 2 ^ i := Nat.pow_le_pow_right (by decide) h
      rw [Nat.testBit_lt_two_pow (show 2 ^ k + r < 2 ^ i by omega), Nat.testBit_lt_two_pow (show r < 2 ^ i by omega)]
      simp [show ¬ k = i by omega]
  have b1 := wb_lt2 (show k + 1 < 64 by omega)
  have b2 := wb_lt2 (show k < 64 by omega)
  apply wb_inj
  rw [Int64.toBitVec_xor, wb_tb, wb_tb, wb_tb]
  apply BitVec.eq_of_toNat_eq
  rw [BitVec.toNat_xor, BitVec.toNat_ofNat, BitVec.toNat_ofNat, BitVec.toNat_ofNat, Nat.mod_eq_of_lt (by omega : 2 ^ k + r < 2 ^ 64), Nat.mod_eq_of_lt b2, hx, Nat.add_sub_cancel_left, Nat.mod_eq_of_lt (by omega)]
end
section
/-! State: its word, its size, its result -/
abbrev rmN (f lo : Nat) : Room := { frames := f, cells := 0, slots := 0, locals := lo }
abbrev ix (i : Int32) : Nat := i.toNatClampNeg
def jshl (w : Int64) (k : Int32) : Int64 := w <<< (k.toInt64 &&& 63)
def jushr (w : Int64) (k : Int32) : Int64 := (w.toUInt64 >>> (k.toInt64.toUInt64 &&& Int64.toUInt64 63)).toInt64
def jish (w : Int32) (k : Int32) : Int32 := w <<< (k &&& 31)
def jiu (w : Int32) (k : Int32) : Int32 := (w.toUInt32 >>> (k.toUInt32 &&& Int32.toUInt32 31)).toInt32
theorem s2_id {α : Type} (f : Nat → Nat → α) (a k : Nat) : s2 f a k (f a k) = f := by
  funext b j
  unfold s2
  split
  · rename_i h
    rw [h.1, h.2]
  · rfl
theorem s2_s2 {α : Type} (f : Nat → Nat → α) (a k : Nat) (v w : α) : s2 (s2 f a k v) a k w = s2 f a k w := by
  funext b j
  unfold s2
  split
  · rfl
  · rfl
theorem pf_i {z z2 : Int32} {g : GM} {I I2 : MI} {J J2 : MJ} (h1 : z = z2) (h2 : I = I2) (h3 : J = J2) : PF (some (.int z2)) g I2 J2 (some (.int z)) g I J := by
  subst h1; subst h2; subst h3
  exact ⟨rfl, rfl, rfl, rfl⟩
theorem pf_l {z z2 : Int64} {g : GM} {I I2 : MI} {J J2 : MJ} (h1 : z = z2) (h2 : I = I2) (h3 : J = J2) : PF (some (.long z2)) g I2 J2 (some (.long z)) g I J := by
  subst h1; subst h2; subst h3
  exact ⟨rfl, rfl, rfl, rfl⟩
theorem pf_v {g : GM} {I I2 : MI} {J J2 : MJ} (h2 : I = I2) (h3 : J = J2) : PF none g I2 J2 none g I J := by
  subst h2; subst h3
  exact ⟨rfl, rfl, rfl, rfl⟩
def chReg (code a b : Int32) (w : Int64) : Int64 × Int32 :=
  if code = 0 then (w, w.toInt32) else if code = 1 then (a.toInt64, 0) else if code = 2 then (a.toInt64, w.toInt32) else if code = 3 then (if w.toInt32 = a then (b.toInt64, 1) else (w, 0)) else ((w.toInt32 + a).toInt64, w.toInt32)
def insW (w : Int64) (p nm : Int32) : Int64 := ((w &&& (jshl 1 (4 * p) - 1)) ||| jshl nm.toInt64 (4 * p)) ||| jshl (jshl (jushr w (4 * p)) (4 * p)) 4
def remW (w : Int64) (p : Int32) : Int64 := (w &&& (jshl 1 (4 * p) - 1)) ||| jshl (jushr (jushr w (4 * p)) 4) (4 * p)
def remN (w : Int64) (p : Int32) : Int32 := (jushr w (4 * p)).toInt32 &&& 15
def plc (av : Nat → Int32) (number size : Int32) : Nat → Int32 → Int64 → Int32
  | 0, place, _ => place
  | n + 1, place, names => if size ≤ place then place else if number ≤ av (ix (names.toInt32 &&& 15)) then place else plc av number size n (place + 1) (jushr names 4)
def chSet (code nm : Int32) (w : Int64) : Int64 × Int32 :=
  if code = 0 then (w ||| jshl 1 nm, if w &&& jshl 1 nm = 0 then 1 else 0) else if code = 1 then (w &&& (jshl 1 nm ^^^ (-1)), if w &&& jshl 1 nm = 0 then 0 else 1) else (w, if w &&& jshl 1 nm = 0 then 0 else 1)
def NOTH : Int32 := -2147483648
def mapH (a : Int32) (w : Int64) : Int32 := (jushr w (5 * (a &&& 7))).toInt32 &&& 31
def chMap (code a b nm : Int32) (bv : Nat → Int32) (w : Int64) : Int64 × Int32 :=
  (let w1 := if code = 1 then w else w &&& (jshl 31 (5 * (a &&& 7)) ^^^ (-1))
   if code = 0 ∧ b ≠ NOTH then w1 ||| jshl (16 ||| nm).toInt64 (5 * (a &&& 7)) else w1,
   if mapH a w &&& 16 = 0 then NOTH else bv (ix (mapH a w &&& 15)))
def chSeq (kind code a nm : Int32) (av : Nat → Int32) (w : Int64) (sz : Int32) : Int64 × Int32 × Int32 :=
  if code = 0 then (insW w (if kind = 4 then plc av a sz 17 0 w else sz) nm, sz + 1, 0)
  else if code = 1 then (if 0 < sz then (remW w (if kind = 2 then sz - 1 else 0), sz - 1, av (ix (remN w (if kind = 2 then sz - 1 else 0)))) else (w, sz, NOTH))
  else (w, sz, sz)
/-- word, size, result behind an operation -/
def chg (kind code a b nm : Int32) (av bv : Nat → Int32) (w : Int64) (sz : Int32) : Int64 × Int32 × Int32 :=
  if kind = 0 then ((chReg code a b w).1, sz, (chReg code a b w).2) else if kind = 3 then ((chSet code nm w).1, sz, (chSet code nm w).2) else if kind = 5 then ((chMap code a b nm bv w).1, sz, (chMap code a b nm bv w).2) else chSeq kind code a nm av w sz
theorem i32_of {x : Int32} {n : Nat} (h : x.toInt = n) (hn : n < 2 ^ 31) : x = nI n := Int32.toInt_inj.mp (by rw [h, nI_toInt hn])
theorem tsw3 {x : Int32} (h0 : x ≠ 0) (h1 : x ≠ 1) (h2 : x ≠ 2) (h3 : x ≠ 3) : x.toInt < 0 ∨ 3 < x.toInt := by
  rcases Int.lt_or_le x.toInt 0 with h | h
  · exact Or.inl h
  · right
    rcases Int.lt_or_le 3 x.toInt with h9 | h9
    · exact h9
    · exfalso
      have hx : x.toInt = 0 ∨ x.toInt = 1 ∨ x.toInt = 2 ∨ x.toInt = 3 := by omega
      rcases hx with e | e | e | e
      · exact h0 (i32_of (n := 0) e (by decide))
      · exact h1 (i32_of (n := 1) e (by decide))
      · exact h2 (i32_of (n := 2) e (by decide))
      · exact h3 (i32_of (n := 3) e (by decide))
theorem lcmp0 {w : Int64} : lg_cmp w 0 = 0 ↔ w = 0 := by
  unfold lg_cmp
  constructor
  · intro h
    split at h
    · cases h
    · split at h
      · assumption
      · cases h
  · intro h
    subst h
    decide
theorem lcmpE {v w : Int64} : lg_cmp v w = 0 ↔ v = w := by
  unfold lg_cmp
  constructor
  · intro h
    split at h
    · cases h
    · split at h
      · assumption
      · cases h
  · intro h
    subst h
    rw [if_neg (by simp [Int64.lt_iff_toInt_lt]), if_pos rfl]
theorem lsw2 {x : Int32} {d o0 o1 : Int} (h0 : x ≠ 0) (h1 : x ≠ 1) : Op.lookupswitch.offset [(0, o0), (1, o1)] d x.toInt = d := by
  have e0 : x.toInt ≠ 0 := fun e => h0 (i32_of (n := 0) e (by decide))
  have e1 : x.toInt ≠ 1 := fun e => h1 (i32_of (n := 1) e (by decide))
  simp [Op.lookupswitch.offset, e0, e1, Ne.symm e0, Ne.symm e1]
theorem lsw3 {x : Int32} {d o0 o1 o2 : Int} (h0 : x ≠ 0) (h1 : x ≠ 3) (h2 : x ≠ 5) : Op.lookupswitch.offset [(0, o0), (3, o1), (5, o2)] d x.toInt = d := by
  have e0 : x.toInt ≠ 0 := fun e => h0 (i32_of (n := 0) e (by decide))
  have e1 : x.toInt ≠ 3 := fun e => h1 (i32_of (n := 3) e (by decide))
  have e2 : x.toInt ≠ 5 := fun e => h2 (i32_of (n := 5) e (by decide))
  simp [Op.lookupswitch.offset, e0, e1, e2, Ne.symm e0, Ne.symm e1, Ne.symm e2]
theorem sh_ne {g : GM} {a b c d n m : Nat} (h1 : g.1 a = (c, n)) (h2 : g.1 b = (d, m)) (h : c ≠ d) : a ≠ b := fun e => by
  subst e
  rw [h1] at h2
  exact h (congrArg Prod.fst h2)
theorem c_St_become (l : Launch) (D : va_G) (g : GM) (I : MI) (J : MJ) {a n : Nat} (w : Int64) (k : Int32) (hs : g.1 a = (2, n)) : Ct l ySt_become bSt_become 4 none (rmN 0 0) D [.ref a, .long w, .int k] g I J (PF none g (s2 I a 1 k) (s2 J a 0 w)) := by
  refine Ct.of (by decide) (ble rfl) [some (.ref a), some (.long w), none, some (.int k)] rfl ?_
  intro x C M
  refine v_aload_n C 0 dSt_become_0 rfl rfl ?_
  refine v_lload_n C 1 dSt_become_1 rfl rfl ?_
  refine v_putl C cfSt (k := 0) (by assumption) rfl w65 rfl rfl rfl dSt_become_2 ?_
  refine v_aload_n C 0 dSt_become_5 rfl rfl ?_
  refine v_iload_n C 3 dSt_become_6 rfl rfl ?_
  refine v_puti C cfSt (k := 1) (by assumption) rfl w67 rfl rfl rfl dSt_become_7 ?_
  exact v_vret C M dSt_become_10 (ble rfl) (ble rfl) ⟨rfl, rfl, rfl, rfl⟩
theorem c_St_changeRegister (l : Launch) (D : va_G) (g : GM) (I : MI) (J : MJ) {a n o m : Nat} (hs : g.1 a = (2, n)) (ho : g.1 o = (0, m)) : Ct l ySt_changeRegister bSt_changeRegister 3 (some .int) (rmN 0 0) D [.ref a, .ref o] g I J (PF (some (.int (chReg (I o 1) (I o 2) (I o 3) (J a 0)).2)) g I (s2 J a 0 (chReg (I o 1) (I o 2) (I o 3) (J a 0)).1)) := by
  refine Ct.of (by decide) (ble rfl) [some (.ref a), some (.ref o), none] rfl ?_
  intro x C M
  refine v_aload_n C 0 dSt_changeRegister_0 rfl rfl ?_
  refine v_getl C cfSt (k := 0) (by assumption) rfl w65 dSt_changeRegister_1 ?_
  refine v_l2i C dSt_changeRegister_4 ?_
  refine v_istore_n C 2 dSt_changeRegister_5 rfl (ble rfl) rfl ?_
  refine v_aload_n C 1 dSt_changeRegister_6 rfl rfl ?_
  refine v_geti C cfOp (k := 1) (by assumption) rfl w353 dSt_changeRegister_7 ?_
  by_cases h0 : I o 1 = 0
  · refine v_tableIn C 40 dSt_changeRegister_10 (by rw [h0]; decide) (by rw [h0]; decide) (by rw [h0]; rfl) (by decide) ?_
    refine v_iload_n C 2 dSt_changeRegister_40 rfl rfl ?_
    exact v_iret C M dSt_changeRegister_41 (ble rfl) (ble rfl) (pf_i (by simp [chReg, h0]) rfl (by simp [chReg, h0, s2_id]))
  by_cases h1 : I o 1 = 1
  · refine v_tableIn C 42 dSt_changeRegister_10 (by rw [h1]; decide) (by rw [h1]; decide) (by rw [h1]; rfl) (by decide) ?_
    refine v_aload_n C 0 dSt_changeRegister_42 rfl rfl ?_
    refine v_aload_n C 1 dSt_changeRegister_43 rfl rfl ?_
    refine v_geti C cfOp (k := 2) (by assumption) rfl w355 dSt_changeRegister_44 ?_
    refine v_i2l C dSt_changeRegister_47 ?_
    refine v_putl C cfSt (k := 0) (by assumption) rfl w65 rfl rfl rfl dSt_changeRegister_48 ?_
    refine v_iconst C 0 dSt_changeRegister_51 (by decide) ?_
    exact v_iret C M dSt_changeRegister_52 (ble rfl) (ble rfl) (pf_i (by simp [chReg, h1]) rfl (by simp [chReg, h1]))
  by_cases h2 : I o 1 = 2
  · refine v_tableIn C 53 dSt_changeRegister_10 (by rw [h2]; decide) (by rw [h2]; decide) (by rw [h2]; rfl) (by decide) ?_
    refine v_aload_n C 0 dSt_changeRegister_53 rfl rfl ?_
    refine v_aload_n C 1 dSt_changeRegister_54 rfl rfl ?_
    refine v_geti C cfOp (k := 2) (by assumption) rfl w355 dSt_changeRegister_55 ?_
    refine v_i2l C dSt_changeRegister_58 ?_
    refine v_putl C cfSt (k := 0) (by assumption) rfl w65 rfl rfl rfl dSt_changeRegister_59 ?_
    refine v_iload_n C 2 dSt_changeRegister_62 rfl rfl ?_
    exact v_iret C M dSt_changeRegister_63 (ble rfl) (ble rfl) (pf_i (by simp [chReg, h2]) rfl (by simp [chReg, h2]))
  by_cases h3 : I o 1 = 3
  · refine v_tableIn C 64 dSt_changeRegister_10 (by rw [h3]; decide) (by rw [h3]; decide) (by rw [h3]; rfl) (by decide) ?_
    refine v_iload_n C 2 dSt_changeRegister_64 rfl rfl ?_
    refine v_aload_n C 1 dSt_changeRegister_65 rfl rfl ?_
    refine v_geti C cfOp (k := 2) (by assumption) rfl w355 dSt_changeRegister_66 ?_
    refine v_icmp_eq C 74 dSt_changeRegister_69 (by decide) (fun c69 => ?_) (fun c69 => ?_)
    · refine v_aload_n C 0 dSt_changeRegister_74 rfl rfl ?_
      refine v_aload_n C 1 dSt_changeRegister_75 rfl rfl ?_
      refine v_geti C cfOp (k := 3) (by assumption) rfl w357 dSt_changeRegister_76 ?_
      refine v_i2l C dSt_changeRegister_79 ?_
      refine v_putl C cfSt (k := 0) (by assumption) rfl w65 rfl rfl rfl dSt_changeRegister_80 ?_
      refine v_iconst C 1 dSt_changeRegister_83 (by decide) ?_
      exact v_iret C M dSt_changeRegister_84 (ble rfl) (ble rfl) (pf_i (by simp [chReg, h3, c69]) rfl (by simp [chReg, h3, c69]))
    · refine v_iconst C 0 dSt_changeRegister_72 (by decide) ?_
      exact v_iret C M dSt_changeRegister_73 (ble rfl) (ble rfl) (pf_i (by simp [chReg, h3, c69]) rfl (by simp [chReg, h3, c69, s2_id]))
  · refine v_tableOut C 85 dSt_changeRegister_10 (tsw3 h0 h1 h2 h3) (by decide) ?_
    refine v_aload_n C 0 dSt_changeRegister_85 rfl rfl ?_
    refine v_iload_n C 2 dSt_changeRegister_86 rfl rfl ?_
    refine v_aload_n C 1 dSt_changeRegister_87 rfl rfl ?_
    refine v_geti C cfOp (k := 2) (by assumption) rfl w355 dSt_changeRegister_88 ?_
    refine v_iadd C dSt_changeRegister_91 ?_
    refine v_i2l C dSt_changeRegister_92 ?_
    refine v_putl C cfSt (k := 0) (by assumption) rfl w65 rfl rfl rfl dSt_changeRegister_93 ?_
    refine v_iload_n C 2 dSt_changeRegister_96 rfl rfl ?_
    exact v_iret C M dSt_changeRegister_97 (ble rfl) (ble rfl) (pf_i (by simp [chReg, h0, h1, h2, h3]) rfl (by simp [chReg, h0, h1, h2, h3]))
theorem c_St_insertAt (l : Launch) (D : va_G) (g : GM) (I : MI) (J : MJ) {a n : Nat} (p nm : Int32) (hs : g.1 a = (2, n)) : Ct l ySt_insertAt bSt_insertAt 8 none (rmN 0 0) D [.ref a, .int p, .int nm] g I J (PF none g (s2 I a 1 (I a 1 + 1)) (s2 J a 0 (insW (J a 0) p nm))) := by
  refine Ct.of (by decide) (ble rfl) [some (.ref a), some (.int p), some (.int nm), none, none, none, none, none] rfl ?_
  intro x C M
  refine v_iconst C 4 dSt_insertAt_0 (by decide) ?_
  refine v_iload_n C 1 dSt_insertAt_1 rfl rfl ?_
  refine v_imul C dSt_insertAt_2 ?_
  refine v_istore_n C 3 dSt_insertAt_3 rfl (ble rfl) rfl ?_
  refine v_aload_n C 0 dSt_insertAt_4 rfl rfl ?_
  refine v_getl C cfSt (k := 0) (by assumption) rfl w65 dSt_insertAt_5 ?_
  refine v_lconst C 1 dSt_insertAt_8 (by decide) ?_
  refine v_iload_n C 3 dSt_insertAt_9 rfl rfl ?_
  refine v_lshl C dSt_insertAt_10 ?_
  refine v_lconst C 1 dSt_insertAt_11 (by decide) ?_
  refine v_lsub C dSt_insertAt_12 ?_
  refine v_land C dSt_insertAt_13 ?_
  refine v_lstore C dSt_insertAt_14 (ble rfl) rfl ?_
  refine v_aload_n C 0 dSt_insertAt_16 rfl rfl ?_
  refine v_getl C cfSt (k := 0) (by assumption) rfl w65 dSt_insertAt_17 ?_
  refine v_iload_n C 3 dSt_insertAt_20 rfl rfl ?_
  refine v_lushr C dSt_insertAt_21 ?_
  refine v_iload_n C 3 dSt_insertAt_22 rfl rfl ?_
  refine v_lshl C dSt_insertAt_23 ?_
  refine v_iconst C 4 dSt_insertAt_24 (by decide) ?_
  refine v_lshl C dSt_insertAt_25 ?_
  refine v_lstore C dSt_insertAt_26 (ble rfl) rfl ?_
  refine v_aload_n C 0 dSt_insertAt_28 rfl rfl ?_
  refine v_lload C dSt_insertAt_29 rfl ?_
  refine v_iload_n C 2 dSt_insertAt_31 rfl rfl ?_
  refine v_i2l C dSt_insertAt_32 ?_
  refine v_iload_n C 3 dSt_insertAt_33 rfl rfl ?_
  refine v_lshl C dSt_insertAt_34 ?_
  refine v_lor C dSt_insertAt_35 ?_
  refine v_lload C dSt_insertAt_36 rfl ?_
  refine v_lor C dSt_insertAt_38 ?_
  refine v_putl C cfSt (k := 0) (by assumption) rfl w65 rfl rfl rfl dSt_insertAt_39 ?_
  refine v_aload_n C 0 dSt_insertAt_42 rfl rfl ?_
  refine v_dup C dSt_insertAt_43 rfl ?_
  refine v_geti C cfSt (k := 1) (by assumption) rfl w67 dSt_insertAt_44 ?_
  refine v_iconst C 1 dSt_insertAt_47 (by decide) ?_
  refine v_iadd C dSt_insertAt_48 ?_
  refine v_puti C cfSt (k := 1) (by assumption) rfl w67 rfl rfl rfl dSt_insertAt_49 ?_
  exact v_vret C M dSt_insertAt_52 (ble rfl) (ble rfl) (pf_v rfl rfl)
theorem c_St_removeAt (l : Launch) (D : va_G) (g : GM) (I : MI) (J : MJ) {a n : Nat} (p : Int32) (hs : g.1 a = (2, n)) : Ct l ySt_removeAt bSt_removeAt 8 (some .int) (rmN 0 0) D [.ref a, .int p] g I J (PF (some (.int (remN (J a 0) p))) g (s2 I a 1 (I a 1 - 1)) (s2 J a 0 (remW (J a 0) p))) := by
  refine Ct.of (by decide) (ble rfl) [some (.ref a), some (.int p), none, none, none, none, none, none] rfl ?_
  intro x C M
  refine v_iconst C 4 dSt_removeAt_0 (by decide) ?_
  refine v_iload_n C 1 dSt_removeAt_1 rfl rfl ?_
  refine v_imul C dSt_removeAt_2 ?_
  refine v_istore_n C 2 dSt_removeAt_3 rfl (ble rfl) rfl ?_
  refine v_aload_n C 0 dSt_removeAt_4 rfl rfl ?_
  refine v_getl C cfSt (k := 0) (by assumption) rfl w65 dSt_removeAt_5 ?_
  refine v_iload_n C 2 dSt_removeAt_8 rfl rfl ?_
  refine v_lushr C dSt_removeAt_9 ?_
  refine v_l2i C dSt_removeAt_10 ?_
  refine v_bipush C 15 dSt_removeAt_11 (by decide) ?_
  refine v_iand C dSt_removeAt_13 ?_
  refine v_istore_n C 3 dSt_removeAt_14 rfl (ble rfl) rfl ?_
  refine v_aload_n C 0 dSt_removeAt_15 rfl rfl ?_
  refine v_getl C cfSt (k := 0) (by assumption) rfl w65 dSt_removeAt_16 ?_
  refine v_lconst C 1 dSt_removeAt_19 (by decide) ?_
  refine v_iload_n C 2 dSt_removeAt_20 rfl rfl ?_
  refine v_lshl C dSt_removeAt_21 ?_
  refine v_lconst C 1 dSt_removeAt_22 (by decide) ?_
  refine v_lsub C dSt_removeAt_23 ?_
  refine v_land C dSt_removeAt_24 ?_
  refine v_lstore C dSt_removeAt_25 (ble rfl) rfl ?_
  refine v_aload_n C 0 dSt_removeAt_27 rfl rfl ?_
  refine v_getl C cfSt (k := 0) (by assumption) rfl w65 dSt_removeAt_28 ?_
  refine v_iload_n C 2 dSt_removeAt_31 rfl rfl ?_
  refine v_lushr C dSt_removeAt_32 ?_
  refine v_iconst C 4 dSt_removeAt_33 (by decide) ?_
  refine v_lushr C dSt_removeAt_34 ?_
  refine v_iload_n C 2 dSt_removeAt_35 rfl rfl ?_
  refine v_lshl C dSt_removeAt_36 ?_
  refine v_lstore C dSt_removeAt_37 (ble rfl) rfl ?_
  refine v_aload_n C 0 dSt_removeAt_39 rfl rfl ?_
  refine v_lload C dSt_removeAt_40 rfl ?_
  refine v_lload C dSt_removeAt_42 rfl ?_
  refine v_lor C dSt_removeAt_44 ?_
  refine v_putl C cfSt (k := 0) (by assumption) rfl w65 rfl rfl rfl dSt_removeAt_45 ?_
  refine v_aload_n C 0 dSt_removeAt_48 rfl rfl ?_
  refine v_dup C dSt_removeAt_49 rfl ?_
  refine v_geti C cfSt (k := 1) (by assumption) rfl w67 dSt_removeAt_50 ?_
  refine v_iconst C 1 dSt_removeAt_53 (by decide) ?_
  refine v_isub C dSt_removeAt_54 ?_
  refine v_puti C cfSt (k := 1) (by assumption) rfl w67 rfl rfl rfl dSt_removeAt_55 ?_
  refine v_iload_n C 3 dSt_removeAt_58 rfl rfl ?_
  exact v_iret C M dSt_removeAt_59 (ble rfl) (ble rfl) (pf_i rfl rfl rfl)
/-- the operations of an object: the row of references at ao, the cells from ob on -/
def OpsAt (g : GM) (ao ob : Nat) : Prop := g.1 ao = (13, 16) ∧ ∀ i, i < 16 → g.2.1 ao i = some (ob + i) ∧ g.1 (ob + i) = (0, 0)
theorem ops_15 {g : GM} {ao ob : Nat} (h : OpsAt g ao ob) (y : Int32) : ∃ q, q < 16 ∧ ix (y &&& 15) = q ∧ vp_in (y &&& 15) 16 ∧ g.2.1 ao (y &&& 15).toNatClampNeg = some (ob + q) ∧ g.1 (ob + q) = (0, 0) := by
  obtain ⟨q, hq, e⟩ := pk_andE y (m := 15) 4 (by decide)
  have e2 : (y &&& 15).toNatClampNeg = q := by rw [e]; exact nI_clamp (by omega)
  refine ⟨q, hq, e2, by rw [e]; exact vp_in_nI hq (by decide), by rw [e2]; exact (h.2 q hq).1, (h.2 q hq).2⟩
theorem c_St_placeInHeap (l : Launch) (D : va_G) (g : GM) (I : MI) (J : MJ) {a n ao ob sz : Nat} (k : Int32) (hs : g.1 a = (2, n)) (hO : OpsAt g ao ob) (hz : I a 1 = nI sz) (hz2 : sz ≤ 16) : Ct l ySt_placeInHeap bSt_placeInHeap 6 (some .int) (rmN 0 0) D [.ref a, .int k, .ref ao] g I J (PF (some (.int (plc (fun i => I (ob + i) 2) k (I a 1) 17 0 (J a 0)))) g I J) := by
  refine Ct.of (by decide) (ble rfl) [some (.ref a), some (.int k), some (.ref ao), none, none, none] rfl ?_
  intro x C M
  have hA := hO.1
  refine v_iconst C 0 dSt_placeInHeap_0 (by decide) ?_
  refine v_istore_n C 3 dSt_placeInHeap_1 rfl (ble rfl) rfl ?_
  refine v_aload_n C 0 dSt_placeInHeap_2 rfl rfl ?_
  refine v_getl C cfSt (k := 0) (by assumption) rfl w65 dSt_placeInHeap_3 ?_
  refine v_lstore C dSt_placeInHeap_6 (ble rfl) rfl ?_
  have loop : ∀ (m j : Nat) (names : Int64), j ≤ sz → sz + 1 ≤ j + m → plc (fun i => I (ob + i) 2) k (I a 1) m (nI j) names = plc (fun i => I (ob + i) 2) k (I a 1) 17 0 (J a 0) → V x g 0 0 I J 8 [some (.ref a), some (.int k), some (.ref ao), some (.int (nI j)), some (.long names), none] [] := by
    intro m
    induction m with
    | zero =>
      intro j names h1 h2
      exact absurd h2 (by omega)
    | succ m ih =>
      intro j names h1 h2 he
      refine v_iload_n C 3 dSt_placeInHeap_8 rfl rfl ?_
      refine v_aload_n C 0 dSt_placeInHeap_9 rfl rfl ?_
      refine v_geti C cfSt (k := 1) (by assumption) rfl w67 dSt_placeInHeap_10 ?_
      refine v_icmp_ge C 43 dSt_placeInHeap_13 (by decide) (fun c13 => ?_) (fun c13 => ?_)
      · refine v_iload_n C 3 dSt_placeInHeap_43 rfl rfl ?_
        exact v_iret C M dSt_placeInHeap_44 (ble rfl) (ble rfl) (pf_i (by rw [← he]; simp [plc, c13]) rfl rfl)
      · refine v_aload_n C 2 dSt_placeInHeap_16 rfl rfl ?_
        refine v_lload C dSt_placeInHeap_17 rfl ?_
        refine v_l2i C dSt_placeInHeap_19 ?_
        refine v_bipush C 15 dSt_placeInHeap_20 (by decide) ?_
        refine v_iand C dSt_placeInHeap_22 ?_
        obtain ⟨q, hq, e1, e2, e3, e4⟩ := ops_15 hO names.toInt32
        refine v_pald C (by assumption) (by assumption) (by assumption) dSt_placeInHeap_23 ?_
        refine v_geti C cfOp (k := 2) (by assumption) rfl w355 dSt_placeInHeap_24 ?_
        refine v_iload_n C 1 dSt_placeInHeap_27 rfl rfl ?_
        refine v_icmp_ge C 43 dSt_placeInHeap_28 (by decide) (fun c28 => ?_) (fun c28 => ?_)
        · refine v_iload_n C 3 dSt_placeInHeap_43 rfl rfl ?_
          exact v_iret C M dSt_placeInHeap_44 (ble rfl) (ble rfl) (pf_i (by rw [← he]; simp [plc, c13, e1, c28]) rfl rfl)
        · have hj : j < sz := by
            rcases Nat.lt_or_ge j sz with h | h
            · exact h
            · exact absurd (by rw [hz]; exact nI_le h (by omega)) c13
          refine v_lload C dSt_placeInHeap_31 rfl ?_
          refine v_iconst C 4 dSt_placeInHeap_33 (by decide) ?_
          refine v_lushr C dSt_placeInHeap_34 ?_
          refine v_lstore C dSt_placeInHeap_35 (ble rfl) rfl ?_
          refine v_iinc C (nI (j + 1)) dSt_placeInHeap_37 rfl (nI_1 j) (ble rfl) rfl ?_
          refine v_goto C 8 dSt_placeInHeap_40 (by decide) ?_
          refine ih (j + 1) _ hj (by omega) ?_
          rw [← he]
          simp [plc, c13, e1, c28, nI_1, jushr]
  exact loop 17 0 (J a 0) (Nat.zero_le _) (by omega) rfl
theorem c_St_changeSet (l : Launch) (D : va_G) (g : GM) (I : MI) (J : MJ) {a n o m : Nat} (hs : g.1 a = (2, n)) (ho : g.1 o = (0, m)) : Ct l ySt_changeSet bSt_changeSet 5 (some .int) (rmN 0 0) D [.ref a, .ref o] g I J (PF (some (.int (chSet (I o 1) (I o 4) (J a 0)).2)) g I (s2 J a 0 (chSet (I o 1) (I o 4) (J a 0)).1)) := by
  refine Ct.of (by decide) (ble rfl) [some (.ref a), some (.ref o), none, none, none] rfl ?_
  intro x C M
  refine v_lconst C 1 dSt_changeSet_0 (by decide) ?_
  refine v_aload_n C 1 dSt_changeSet_1 rfl rfl ?_
  refine v_geti C cfOp (k := 4) (by assumption) rfl w359 dSt_changeSet_2 ?_
  refine v_lshl C dSt_changeSet_5 ?_
  refine v_lstore_n C 2 dSt_changeSet_6 rfl (ble rfl) rfl ?_
  refine v_aload_n C 0 dSt_changeSet_7 rfl rfl ?_
  refine v_getl C cfSt (k := 0) (by assumption) rfl w65 dSt_changeSet_8 ?_
  refine v_lload_n C 2 dSt_changeSet_11 rfl rfl ?_
  refine v_land C dSt_changeSet_12 ?_
  refine v_lconst C 0 dSt_changeSet_13 (by decide) ?_
  refine v_lcmp C dSt_changeSet_14 ?_
  have key : ∀ z : Int32, z = (if J a 0 &&& jshl 1 (I o 4) = 0 then 0 else 1) → V x g 0 0 I J 23 [some (.ref a), some (.ref o), some (.long (jshl 1 (I o 4))), none, none] [.int z] := by
    intro z ez
    refine v_istore C dSt_changeSet_23 (ble rfl) rfl ?_
    refine v_aload_n C 1 dSt_changeSet_25 rfl rfl ?_
    refine v_geti C cfOp (k := 1) (by assumption) rfl w353 dSt_changeSet_26 ?_
    by_cases h0 : I o 1 = 0
    · refine v_lookup C 56 dSt_changeSet_29 (by decide) (by rw [h0]) (by decide) ?_
      refine v_aload_n C 0 dSt_changeSet_56 rfl rfl ?_
      refine v_dup C dSt_changeSet_57 rfl ?_
      refine v_getl C cfSt (k := 0) (by assumption) rfl w65 dSt_changeSet_58 ?_
      refine v_lload_n C 2 dSt_changeSet_61 rfl rfl ?_
      refine v_lor C dSt_changeSet_62 ?_
      refine v_putl C cfSt (k := 0) (by assumption) rfl w65 rfl rfl rfl dSt_changeSet_63 ?_
      refine v_iload C dSt_changeSet_66 rfl ?_
      refine v_if_eq C 75 dSt_changeSet_68 (by decide) (fun c68 => ?_) (fun c68 => ?_)
      · refine v_iconst C 1 dSt_changeSet_75 (by decide) ?_
        exact v_iret C M dSt_changeSet_76 (ble rfl) (ble rfl) (pf_i (by rw [ez] at c68; split at c68 <;> simp_all [chSet]) rfl (by simp [chSet, h0]))
      · refine v_iconst C 0 dSt_changeSet_71 (by decide) ?_
        refine v_goto C 76 dSt_changeSet_72 (by decide) ?_
        exact v_iret C M dSt_changeSet_76 (ble rfl) (ble rfl) (pf_i (by rw [ez] at c68; split at c68 <;> simp_all [chSet]) rfl (by simp [chSet, h0]))
    by_cases h1 : I o 1 = 1
    · refine v_lookup C 77 dSt_changeSet_29 (by decide) (by rw [h1]) (by decide) ?_
      refine v_aload_n C 0 dSt_changeSet_77 rfl rfl ?_
      refine v_dup C dSt_changeSet_78 rfl ?_
      refine v_getl C cfSt (k := 0) (by assumption) rfl w65 dSt_changeSet_79 ?_
      refine v_lload_n C 2 dSt_changeSet_82 rfl rfl ?_
      refine v_ldc2 C w289 dSt_changeSet_83 ?_
      refine v_lxor C dSt_changeSet_86 ?_
      refine v_land C dSt_changeSet_87 ?_
      refine v_putl C cfSt (k := 0) (by assumption) rfl w65 rfl rfl rfl dSt_changeSet_88 ?_
      refine v_iload C dSt_changeSet_91 rfl ?_
      refine v_if_eq C 100 dSt_changeSet_93 (by decide) (fun c93 => ?_) (fun c93 => ?_)
      · refine v_iconst C 0 dSt_changeSet_100 (by decide) ?_
        exact v_iret C M dSt_changeSet_101 (ble rfl) (ble rfl) (pf_i (by rw [ez] at c93; split at c93 <;> simp_all [chSet]) rfl (by simp [chSet, h1]))
      · refine v_iconst C 1 dSt_changeSet_96 (by decide) ?_
        refine v_goto C 101 dSt_changeSet_97 (by decide) ?_
        exact v_iret C M dSt_changeSet_101 (ble rfl) (ble rfl) (pf_i (by rw [ez] at c93; split at c93 <;> simp_all [chSet]) rfl (by simp [chSet, h1]))
    · refine v_lookup C 102 dSt_changeSet_29 (by decide) (lsw2 h0 h1) (by decide) ?_
      refine v_iload C dSt_changeSet_102 rfl ?_
      refine v_if_eq C 111 dSt_changeSet_104 (by decide) (fun c104 => ?_) (fun c104 => ?_)
      · refine v_iconst C 0 dSt_changeSet_111 (by decide) ?_
        exact v_iret C M dSt_changeSet_112 (ble rfl) (ble rfl) (pf_i (by rw [ez] at c104; split at c104 <;> simp_all [chSet]) rfl (by simp [chSet, h0, h1, s2_id]))
      · refine v_iconst C 1 dSt_changeSet_107 (by decide) ?_
        refine v_goto C 112 dSt_changeSet_108 (by decide) ?_
        exact v_iret C M dSt_changeSet_112 (ble rfl) (ble rfl) (pf_i (by rw [ez] at c104; split at c104 <;> simp_all [chSet]) rfl (by simp [chSet, h0, h1, s2_id]))
  refine v_if_eq C 22 dSt_changeSet_15 (by decide) (fun c15 => ?_) (fun c15 => ?_)
  · refine v_iconst C 0 dSt_changeSet_22 (by decide) ?_
    exact key 0 (by rw [if_pos]; exact lcmp0.mp c15)
  · refine v_iconst C 1 dSt_changeSet_18 (by decide) ?_
    refine v_goto C 23 dSt_changeSet_19 (by decide) ?_
    exact key 1 (by rw [if_neg]; exact fun h => c15 (lcmp0.mpr h))
theorem c_St_changeMap (l : Launch) (D : va_G) (g : GM) (I : MI) (J : MJ) {a n o m ao ob : Nat} (hs : g.1 a = (2, n)) (ho : g.1 o = (0, m)) (hO : OpsAt g ao ob) : Ct l ySt_changeMap bSt_changeMap 5 (some .int) (rmN 0 0) D [.ref a, .ref o, .ref ao] g I J (PF (some (.int (chMap (I o 1) (I o 2) (I o 3) (I o 4) (fun i => I (ob + i) 3) (J a 0)).2)) g I (s2 J a 0 (chMap (I o 1) (I o 2) (I o 3) (I o 4) (fun i => I (ob + i) 3) (J a 0)).1)) := by
  refine Ct.of (by decide) (ble rfl) [some (.ref a), some (.ref o), some (.ref ao), none, none] rfl ?_
  intro x C M
  have hA := hO.1
  refine v_iconst C 5 dSt_changeMap_0 (by decide) ?_
  refine v_aload_n C 1 dSt_changeMap_1 rfl rfl ?_
  refine v_geti C cfOp (k := 2) (by assumption) rfl w355 dSt_changeMap_2 ?_
  refine v_bipush C 7 dSt_changeMap_5 (by decide) ?_
  refine v_iand C dSt_changeMap_7 ?_
  refine v_imul C dSt_changeMap_8 ?_
  refine v_istore_n C 3 dSt_changeMap_9 rfl (ble rfl) rfl ?_
  refine v_aload_n C 0 dSt_changeMap_10 rfl rfl ?_
  refine v_getl C cfSt (k := 0) (by assumption) rfl w65 dSt_changeMap_11 ?_
  refine v_iload_n C 3 dSt_changeMap_14 rfl rfl ?_
  refine v_lushr C dSt_changeMap_15 ?_
  refine v_l2i C dSt_changeMap_16 ?_
  refine v_bipush C 31 dSt_changeMap_17 (by decide) ?_
  refine v_iand C dSt_changeMap_19 ?_
  refine v_istore C dSt_changeMap_20 (ble rfl) rfl ?_
  refine v_aload_n C 1 dSt_changeMap_22 rfl rfl ?_
  refine v_geti C cfOp (k := 1) (by assumption) rfl w353 dSt_changeMap_23 ?_
  refine v_iconst C 1 dSt_changeMap_26 (by decide) ?_
  have key2 : ∀ w2 : Int64, w2 = (chMap (I o 1) (I o 2) (I o 3) (I o 4) (fun i => I (ob + i) 3) (J a 0)).1 → V x g 0 0 I (s2 J a 0 w2) 83 [some (.ref a), some (.ref o), some (.ref ao), some (.int (5 * (I o 2 &&& 7))), some (.int (mapH (I o 2) (J a 0)))] [] := by
    intro w2 e2
    refine v_iload C dSt_changeMap_83 rfl ?_
    refine v_bipush C 16 dSt_changeMap_85 (by decide) ?_
    refine v_iand C dSt_changeMap_87 ?_
    refine v_if_ne C 96 dSt_changeMap_88 (by decide) (fun c88 => ?_) (fun c88 => ?_)
    · refine v_aload_n C 2 dSt_changeMap_96 rfl rfl ?_
      refine v_iload C dSt_changeMap_97 rfl ?_
      refine v_bipush C 15 dSt_changeMap_99 (by decide) ?_
      refine v_iand C dSt_changeMap_101 ?_
      obtain ⟨q, hq, e3, e4, e5, e6⟩ := ops_15 hO (mapH (I o 2) (J a 0))
      refine v_pald C (by assumption) (by assumption) (by assumption) dSt_changeMap_102 ?_
      refine v_geti C cfOp (k := 3) (by assumption) rfl w357 dSt_changeMap_103 ?_
      exact v_iret C M dSt_changeMap_106 (ble rfl) (ble rfl) (pf_i (by simp [chMap, c88, e3]) rfl (by rw [e2]))
    · have c88 : mapH (I o 2) (J a 0) &&& 16 = 0 := by simpa using c88
      refine v_ldc C w295 dSt_changeMap_91 ?_
      refine v_goto C 106 dSt_changeMap_93 (by decide) ?_
      exact v_iret C M dSt_changeMap_106 (ble rfl) (ble rfl) (pf_i (by simp [chMap, c88, NOTH]) rfl (by rw [e2]))
  have key : ∀ w1 : Int64, w1 = (if I o 1 = 1 then J a 0 else J a 0 &&& (jshl 31 (5 * (I o 2 &&& 7)) ^^^ (-1))) → V x g 0 0 I (s2 J a 0 w1) 48 [some (.ref a), some (.ref o), some (.ref ao), some (.int (5 * (I o 2 &&& 7))), some (.int (mapH (I o 2) (J a 0)))] [] := by
    intro w1 e1
    refine v_aload_n C 1 dSt_changeMap_48 rfl rfl ?_
    refine v_geti C cfOp (k := 1) (by assumption) rfl w353 dSt_changeMap_49 ?_
    refine v_if_ne C 83 dSt_changeMap_52 (by decide) (fun c52 => ?_) (fun c52 => ?_)
    · exact key2 w1 (by rw [e1]; simp [chMap, c52])
    · have c52 : I o 1 = 0 := by simpa using c52
      refine v_aload_n C 1 dSt_changeMap_55 rfl rfl ?_
      refine v_geti C cfOp (k := 3) (by assumption) rfl w357 dSt_changeMap_56 ?_
      refine v_ldc C w295 dSt_changeMap_59 ?_
      refine v_icmp_eq C 83 dSt_changeMap_61 (by decide) (fun c61 => ?_) (fun c61 => ?_)
      · exact key2 w1 (by rw [e1]; simp [chMap, c52, c61, NOTH])
      · refine v_aload_n C 0 dSt_changeMap_64 rfl rfl ?_
        refine v_dup C dSt_changeMap_65 rfl ?_
        refine v_getl C cfSt (k := 0) (by assumption) rfl w65 dSt_changeMap_66 ?_
        refine v_bipush C 16 dSt_changeMap_69 (by decide) ?_
        refine v_aload_n C 1 dSt_changeMap_71 rfl rfl ?_
        refine v_geti C cfOp (k := 4) (by assumption) rfl w359 dSt_changeMap_72 ?_
        refine v_ior C dSt_changeMap_75 ?_
        refine v_i2l C dSt_changeMap_76 ?_
        refine v_iload_n C 3 dSt_changeMap_77 rfl rfl ?_
        refine v_lshl C dSt_changeMap_78 ?_
        refine v_lor C dSt_changeMap_79 ?_
        refine v_putl C cfSt (k := 0) (by assumption) rfl w65 rfl rfl rfl dSt_changeMap_80 ?_
        rw [s2_s2, s2_self]
        exact key2 _ (by rw [e1]; simp [chMap, c52, NOTH, c61, jshl])
  refine v_icmp_eq C 48 dSt_changeMap_27 (by decide) (fun c27 => ?_) (fun c27 => ?_)
  · have h := key (J a 0) (by rw [if_pos c27])
    rw [s2_id] at h
    exact h
  · refine v_aload_n C 0 dSt_changeMap_30 rfl rfl ?_
    refine v_dup C dSt_changeMap_31 rfl ?_
    refine v_getl C cfSt (k := 0) (by assumption) rfl w65 dSt_changeMap_32 ?_
    refine v_ldc2 C w294 dSt_changeMap_35 ?_
    refine v_iload_n C 3 dSt_changeMap_38 rfl rfl ?_
    refine v_lshl C dSt_changeMap_39 ?_
    refine v_ldc2 C w289 dSt_changeMap_40 ?_
    refine v_lxor C dSt_changeMap_43 ?_
    refine v_land C dSt_changeMap_44 ?_
    refine v_putl C cfSt (k := 0) (by assumption) rfl w65 rfl rfl rfl dSt_changeMap_45 ?_
    exact key _ (by rw [if_neg c27]; rfl)
theorem c_St_changeSequence (l : Launch) (D : va_G) (g : GM) (I : MI) (J : MJ) {a n o m ao ob sz : Nat} (kind : Int32) (hs : g.1 a = (2, n)) (ho : g.1 o = (0, m)) (hO : OpsAt g ao ob) (hz : I a 1 = nI sz) (hz2 : sz ≤ 16) : Ct l ySt_changeSequence bSt_changeSequence 4 (some .int) (rmN 1 27) D [.ref a, .int kind, .ref o, .ref ao] g I J (PF (some (.int (chSeq kind (I o 1) (I o 2) (I o 4) (fun i => I (ob + i) 2) (J a 0) (I a 1)).2.2)) g (s2 I a 1 (chSeq kind (I o 1) (I o 2) (I o 4) (fun i => I (ob + i) 2) (J a 0) (I a 1)).2.1) (s2 J a 0 (chSeq kind (I o 1) (I o 2) (I o 4) (fun i => I (ob + i) 2) (J a 0) (I a 1)).1)) := by
  refine Ct.of (by decide) (ble rfl) [some (.ref a), some (.int kind), some (.ref o), some (.ref ao)] rfl ?_
  intro x C M
  have hA := hO.1
  refine v_aload_n C 2 dSt_changeSequence_0 rfl rfl ?_
  refine v_geti C cfOp (k := 1) (by assumption) rfl w353 dSt_changeSequence_1 ?_
  by_cases h0 : I o 1 = 0
  · refine v_lookup C 32 dSt_changeSequence_4 (by decide) (by rw [h0]) (by decide) ?_
    refine v_aload_n C 0 dSt_changeSequence_32 rfl rfl ?_
    refine v_iload_n C 1 dSt_changeSequence_33 rfl rfl ?_
    refine v_iconst C 4 dSt_changeSequence_34 (by decide) ?_
    refine v_icmp_ne C 50 dSt_changeSequence_35 (by decide) (fun c35 => ?_) (fun c35 => ?_)
    · refine v_aload_n C 0 dSt_changeSequence_50 rfl rfl ?_
      refine v_geti C cfSt (k := 1) (by assumption) rfl w67 dSt_changeSequence_51 ?_
      refine v_aload_n C 2 dSt_changeSequence_54 rfl rfl ?_
      refine v_geti C cfOp (k := 4) (by assumption) rfl w359 dSt_changeSequence_55 ?_
      refine v_cVv C (c_St_insertAt (kl x) (kD x) g I J (I a 1) (I o 4) hs) mwSt_insertAt cfSt (by assumption) w306 ws10 w304 rfl rfl (ble rfl) (ble rfl) (ble rfl) (ble rfl) (ble rfl) dSt_changeSequence_58 ?_
      refine v_iconst C 0 dSt_changeSequence_61 (by decide) ?_
      exact v_iret C M dSt_changeSequence_62 (ble rfl) (ble rfl) (pf_i (by simp [chSeq, h0]) (by simp [chSeq, h0]) (by simp [chSeq, h0, c35]))
    · have c35 : kind = 4 := by simpa using c35
      refine v_aload_n C 0 dSt_changeSequence_38 rfl rfl ?_
      refine v_aload_n C 2 dSt_changeSequence_39 rfl rfl ?_
      refine v_geti C cfOp (k := 2) (by assumption) rfl w355 dSt_changeSequence_40 ?_
      refine v_aload_n C 3 dSt_changeSequence_43 rfl rfl ?_
      refine v_cVi C (c_St_placeInHeap (kl x) (kD x) g I J (I o 2) hs hO hz hz2) mwSt_placeInHeap cfSt (by assumption) w302 ws9 w300 rfl rfl (ble rfl) (ble rfl) (ble rfl) (ble rfl) (ble rfl) dSt_changeSequence_44 ?_
      refine v_goto C 54 dSt_changeSequence_47 (by decide) ?_
      refine v_aload_n C 2 dSt_changeSequence_54 rfl rfl ?_
      refine v_geti C cfOp (k := 4) (by assumption) rfl w359 dSt_changeSequence_55 ?_
      refine v_cVv C (c_St_insertAt (kl x) (kD x) g I J _ (I o 4) hs) mwSt_insertAt cfSt (by assumption) w306 ws10 w304 rfl rfl (ble rfl) (ble rfl) (ble rfl) (ble rfl) (ble rfl) dSt_changeSequence_58 ?_
      refine v_iconst C 0 dSt_changeSequence_61 (by decide) ?_
      exact v_iret C M dSt_changeSequence_62 (ble rfl) (ble rfl) (pf_i (by simp [chSeq, h0]) (by simp [chSeq, h0]) (by simp [chSeq, h0, c35]))
  by_cases h1 : I o 1 = 1
  · refine v_lookup C 63 dSt_changeSequence_4 (by decide) (by rw [h1]) (by decide) ?_
    refine v_aload_n C 0 dSt_changeSequence_63 rfl rfl ?_
    refine v_geti C cfSt (k := 1) (by assumption) rfl w67 dSt_changeSequence_64 ?_
    refine v_if_gt C 73 dSt_changeSequence_67 (by decide) (fun c67 => ?_) (fun c67 => ?_)
    · refine v_aload_n C 3 dSt_changeSequence_73 rfl rfl ?_
      refine v_aload_n C 0 dSt_changeSequence_74 rfl rfl ?_
      refine v_iload_n C 1 dSt_changeSequence_75 rfl rfl ?_
      refine v_iconst C 2 dSt_changeSequence_76 (by decide) ?_
      have key : ∀ p : Int32, p = (if kind = 2 then I a 1 - 1 else 0) → V x g 0 0 I J 90 [some (.ref a), some (.int kind), some (.ref o), some (.ref ao)] [.int p, .ref a, .ref ao] := by
        intro p ep
        refine v_cVi C (c_St_removeAt (kl x) (kD x) g I J p hs) mwSt_removeAt cfSt (by assumption) w310 ws11 w308 rfl rfl (ble rfl) (ble rfl) (ble rfl) (ble rfl) (ble rfl) dSt_changeSequence_90 ?_
        obtain ⟨q, hq, e3, e4, e5, e6⟩ := ops_15 hO (jushr (J a 0) (4 * p)).toInt32
        have e5' : g.2.1 ao (remN (J a 0) p).toNatClampNeg = some (ob + q) := e5
        have e4' : vp_in (remN (J a 0) p) 16 := e4
        have e3' : (remN (J a 0) p).toNatClampNeg = q := e3
        refine v_pald C (by assumption) (by assumption) (by assumption) dSt_changeSequence_93 ?_
        refine v_geti C cfOp (k := 2) (by assumption) rfl w355 dSt_changeSequence_94 ?_
        rw [s2_a (sh_ne e6 hs (by decide))]
        exact v_iret C M dSt_changeSequence_97 (ble rfl) (ble rfl) (pf_i (by simp [chSeq, h1, c67, ← ep, e3']) (by simp [chSeq, h1, c67]) (by simp [chSeq, h1, c67, ← ep]))
      refine v_icmp_ne C 89 dSt_changeSequence_77 (by decide) (fun c77 => ?_) (fun c77 => ?_)
      · refine v_iconst C 0 dSt_changeSequence_89 (by decide) ?_
        exact key 0 (by rw [if_neg c77])
      · have c77 : kind = 2 := by simpa using c77
        refine v_aload_n C 0 dSt_changeSequence_80 rfl rfl ?_
        refine v_geti C cfSt (k := 1) (by assumption) rfl w67 dSt_changeSequence_81 ?_
        refine v_iconst C 1 dSt_changeSequence_84 (by decide) ?_
        refine v_isub C dSt_changeSequence_85 ?_
        refine v_goto C 90 dSt_changeSequence_86 (by decide) ?_
        exact key _ (by rw [if_pos c77])
    · refine v_ldc C w295 dSt_changeSequence_70 ?_
      exact v_iret C M dSt_changeSequence_72 (ble rfl) (ble rfl) (pf_i (by simp [chSeq, h1, c67, NOTH]) (by simp [chSeq, h1, c67, s2_id]) (by simp [chSeq, h1, c67, s2_id]))
  · refine v_lookup C 98 dSt_changeSequence_4 (by decide) (lsw2 h0 h1) (by decide) ?_
    refine v_aload_n C 0 dSt_changeSequence_98 rfl rfl ?_
    refine v_geti C cfSt (k := 1) (by assumption) rfl w67 dSt_changeSequence_99 ?_
    exact v_iret C M dSt_changeSequence_102 (ble rfl) (ble rfl) (pf_i (by simp [chSeq, h0, h1]) (by simp [chSeq, h0, h1, s2_id]) (by simp [chSeq, h0, h1, s2_id]))
/-- an operation's numbers, over the memory -/
abbrev chgM (I : MI) (kind : Int32) (o ob : Nat) (w : Int64) (sz : Int32) : Int64 × Int32 × Int32 := chg kind (I o 1) (I o 2) (I o 3) (I o 4) (fun i => I (ob + i) 2) (fun i => I (ob + i) 3) w sz
theorem c_St_change (l : Launch) (D : va_G) (g : GM) (I : MI) (J : MJ) {a n o m ao ob sz : Nat} (kind : Int32) (hs : g.1 a = (2, n)) (ho : g.1 o = (0, m)) (hO : OpsAt g ao ob) (hz : I a 1 = nI sz) (hz2 : sz ≤ 16) : Ct l ySt_change bSt_change 4 none (rmN 2 50) D [.ref a, .int kind, .ref o, .ref ao] g I J (PF none g (s2 (s2 I a 1 (chgM I kind o ob (J a 0) (I a 1)).2.1) a 2 (chgM I kind o ob (J a 0) (I a 1)).2.2) (s2 J a 0 (chgM I kind o ob (J a 0) (I a 1)).1)) := by
  refine Ct.of (by decide) (ble rfl) [some (.ref a), some (.int kind), some (.ref o), some (.ref ao)] rfl ?_
  intro x C M
  have hA := hO.1
  refine v_iload_n C 1 dSt_change_0 rfl rfl ?_
  by_cases h0 : kind = 0
  · refine v_lookup C 36 dSt_change_1 (by decide) (by rw [h0]) (by decide) ?_
    refine v_aload_n C 0 dSt_change_36 rfl rfl ?_
    refine v_aload_n C 0 dSt_change_37 rfl rfl ?_
    refine v_aload_n C 2 dSt_change_38 rfl rfl ?_
    refine v_cVi C (c_St_changeRegister (kl x) (kD x) g I J hs ho) mwSt_changeRegister cfSt (by assumption) w283 ws5 w281 rfl rfl (ble rfl) (ble rfl) (ble rfl) (ble rfl) (ble rfl) dSt_change_39 ?_
    refine v_puti C cfSt (k := 2) (by assumption) rfl w69 rfl rfl rfl dSt_change_42 ?_
    refine v_goto C 84 dSt_change_45 (by decide) ?_
    exact v_vret C M dSt_change_84 (ble rfl) (ble rfl) (pf_v (by simp [chg, h0, s2_id]) (by simp [chg, h0]))
  by_cases h3 : kind = 3
  · refine v_lookup C 48 dSt_change_1 (by decide) (by rw [h3]) (by decide) ?_
    refine v_aload_n C 0 dSt_change_48 rfl rfl ?_
    refine v_aload_n C 0 dSt_change_49 rfl rfl ?_
    refine v_aload_n C 2 dSt_change_50 rfl rfl ?_
    refine v_cVi C (c_St_changeSet (kl x) (kD x) g I J hs ho) mwSt_changeSet cfSt (by assumption) w287 ws6 w285 rfl rfl (ble rfl) (ble rfl) (ble rfl) (ble rfl) (ble rfl) dSt_change_51 ?_
    refine v_puti C cfSt (k := 2) (by assumption) rfl w69 rfl rfl rfl dSt_change_54 ?_
    refine v_goto C 84 dSt_change_57 (by decide) ?_
    exact v_vret C M dSt_change_84 (ble rfl) (ble rfl) (pf_v (by simp [chg, h3, s2_id]) (by simp [chg, h3]))
  by_cases h5 : kind = 5
  · refine v_lookup C 60 dSt_change_1 (by decide) (by rw [h5]) (by decide) ?_
    refine v_aload_n C 0 dSt_change_60 rfl rfl ?_
    refine v_aload_n C 0 dSt_change_61 rfl rfl ?_
    refine v_aload_n C 2 dSt_change_62 rfl rfl ?_
    refine v_aload_n C 3 dSt_change_63 rfl rfl ?_
    refine v_cVi C (c_St_changeMap (kl x) (kD x) g I J hs ho hO) mwSt_changeMap cfSt (by assumption) w292 ws7 w290 rfl rfl (ble rfl) (ble rfl) (ble rfl) (ble rfl) (ble rfl) dSt_change_64 ?_
    refine v_puti C cfSt (k := 2) (by assumption) rfl w69 rfl rfl rfl dSt_change_67 ?_
    refine v_goto C 84 dSt_change_70 (by decide) ?_
    exact v_vret C M dSt_change_84 (ble rfl) (ble rfl) (pf_v (by simp [chg, h5, s2_id]) (by simp [chg, h5]))
  · refine v_lookup C 73 dSt_change_1 (by decide) (lsw3 h0 h3 h5) (by decide) ?_
    refine v_aload_n C 0 dSt_change_73 rfl rfl ?_
    refine v_aload_n C 0 dSt_change_74 rfl rfl ?_
    refine v_iload_n C 1 dSt_change_75 rfl rfl ?_
    refine v_aload_n C 2 dSt_change_76 rfl rfl ?_
    refine v_aload_n C 3 dSt_change_77 rfl rfl ?_
    refine v_cVi C (c_St_changeSequence (kl x) (kD x) g I J kind hs ho hO hz hz2) mwSt_changeSequence cfSt (by assumption) w298 ws8 w296 rfl rfl (ble rfl) (ble rfl) (ble rfl) (ble rfl) (ble rfl) dSt_change_78 ?_
    refine v_puti C cfSt (k := 2) (by assumption) rfl w69 rfl rfl rfl dSt_change_81 ?_
    exact v_vret C M dSt_change_84 (ble rfl) (ble rfl) (pf_v (by simp [chg, h0, h3, h5]) (by simp [chg, h0, h3, h5]))
end
section
/-! Table: t the object, t+1 keys, t+2 words, t+3 chains, t+4 links -/
def TaAt (g : GM) (t : Nat) : Prop := g.1 t = (4, 0) ∧ g.1 (t + 1) = (10, 2000) ∧ g.1 (t + 2) = (11, 2000) ∧ g.1 (t + 3) = (10, 1024) ∧ g.1 (t + 4) = (10, 2000) ∧ g.2.1 t 0 = some (t + 1) ∧ g.2.1 t 1 = some (t + 2) ∧ g.2.1 t 2 = some (t + 3) ∧ g.2.1 t 3 = some (t + 4)
def hsh (key : Int32) (w : Int64) : Int32 := (jushr (w * (-7046029254386353131) + key.toInt64 * (-4417276706812531889)) 54).toInt32
theorem hsh_in (key : Int32) (w : Int64) : ∃ c, c < 1024 ∧ hsh key w = nI c := by
  obtain ⟨n, hn, e⟩ := wb_of (w * (-7046029254386353131) + key.toInt64 * (-4417276706812531889))
  refine ⟨n / 2 ^ 54, by omega, ?_⟩
  unfold hsh
  rw [e]
  have h : jushr (lN n) 54 = lN (n / 2 ^ 54) := wb_shr (k := 54) hn (by decide)
  rw [h, lN_i]
def lastI (h : Nat → Int32) (c : Int32) : Nat → Int32
  | 0 => -1
  | m + 1 => if h m = c then nI m else lastI h c m
theorem lastI_spec (h : Nat → Int32) (c : Int32) : ∀ m : Nat, (lastI h c m = -1 ∧ ∀ i, i < m → h i ≠ c) ∨ ∃ i, i < m ∧ lastI h c m = nI i ∧ h i = c ∧ ∀ k, i < k → k < m → h k ≠ c
  | 0 => Or.inl ⟨rfl, fun i hi => absurd hi (Nat.not_lt_zero i)⟩
  | m + 1 => by
    by_cases e : h m = c
    · right
      exact ⟨m, Nat.lt_succ_self m, by simp [lastI, e], e, fun k h1 h2 => by omega⟩
    · have e2 : lastI h c (m + 1) = lastI h c m := by simp [lastI, e]
      rcases lastI_spec h c m with ⟨h1, h2⟩ | ⟨i, h1, h2, h3, h4⟩
      · left
        refine ⟨e2.trans h1, fun i hi => ?_⟩
        rcases Nat.lt_succ_iff_lt_or_eq.mp hi with hi | hi
        · exact h2 i hi
        · rw [hi]; exact e
      · right
        refine ⟨i, by omega, e2.trans h2, h3, fun k k1 k2 => ?_⟩
        rcases Nat.lt_succ_iff_lt_or_eq.mp k2 with hi | hi
        · exact h4 k k1 hi
        · rw [hi]; exact e
theorem lastI_congr {h h2 : Nat → Int32} {c : Int32} : ∀ m : Nat, (∀ i, i < m → h2 i = h i) → lastI h2 c m = lastI h c m
  | 0, _ => rfl
  | m + 1, e => by
    simp only [lastI]
    rw [e m (Nat.lt_succ_self m), lastI_congr m (fun i hi => e i (Nat.lt_succ_of_lt hi))]
/-- the last place below n with this key and this word, else -1 -/
def lk (K : Nat → Int32) (W9 : Nat → Int64) (key : Int32) (w : Int64) : Nat → Int32
  | 0 => -1
  | m + 1 => if K m = key ∧ W9 m = w then nI m else lk K W9 key w m
theorem lk_spec (K : Nat → Int32) (W9 : Nat → Int64) (key : Int32) (w : Int64) : ∀ m : Nat, (lk K W9 key w m = -1 ∧ ∀ i, i < m → ¬ (K i = key ∧ W9 i = w)) ∨ ∃ i, i < m ∧ lk K W9 key w m = nI i ∧ K i = key ∧ W9 i = w
  | 0 => Or.inl ⟨rfl, fun i hi => absurd hi (Nat.not_lt_zero i)⟩
  | m + 1 => by
    by_cases e : K m = key ∧ W9 m = w
    · right
      exact ⟨m, Nat.lt_succ_self m, by simp [lk, e], e.1, e.2⟩
    · have e2 : lk K W9 key w (m + 1) = lk K W9 key w m := by
        show (if _ then _ else _) = _
        rw [if_neg e]
      rcases lk_spec K W9 key w m with ⟨h1, h2⟩ | ⟨i, h1, h2, h3⟩
      · left
        refine ⟨e2.trans h1, fun i hi => ?_⟩
        rcases Nat.lt_succ_iff_lt_or_eq.mp hi with hi | hi
        · exact h2 i hi
        · rw [hi]; exact e
      · right
        exact ⟨i, by omega, e2.trans h2, h3⟩
theorem lk_skip {K : Nat → Int32} {W9 : Nat → Int64} {key : Int32} {w : Int64} {i : Nat} : ∀ m : Nat, i ≤ m → (∀ k, i ≤ k → k < m → ¬ (K k = key ∧ W9 k = w)) → lk K W9 key w m = lk K W9 key w i
  | 0, h, _ => by
    have : i = 0 := by omega
    rw [this]
  | m + 1, h, hn => by
    rcases Nat.lt_or_ge m i with h1 | h1
    · have : i = m + 1 := by omega
      rw [this]
    · have e2 : lk K W9 key w (m + 1) = lk K W9 key w m := by
        show (if _ then _ else _) = _
        rw [if_neg (hn m h1 (Nat.lt_succ_self m))]
      rw [e2]
      exact lk_skip m h1 (fun k k1 k2 => hn k k1 (Nat.lt_succ_of_lt k2))
theorem lk_congr {K K2 : Nat → Int32} {W9 W2 : Nat → Int64} {key : Int32} {w : Int64} : ∀ m : Nat, (∀ i, i < m → K2 i = K i ∧ W2 i = W9 i) → lk K2 W2 key w m = lk K W9 key w m
  | 0, _ => rfl
  | m + 1, e => by
    simp only [lk]
    rw [(e m (Nat.lt_succ_self m)).1, (e m (Nat.lt_succ_self m)).2, lk_congr m (fun i hi => e i (Nat.lt_succ_of_lt hi))]
def hs9 (I : MI) (J : MJ) (t : Nat) (i : Nat) : Int32 := hsh (I (t + 1) i) (J (t + 2) i)
def TabOK (I : MI) (J : MJ) (t n : Nat) : Prop := n ≤ 2000 ∧ I t 4 = nI n ∧ (∀ c, c < 1024 → I (t + 3) c = lastI (hs9 I J t) (nI c) n) ∧ ∀ i, i < n → I (t + 4) i = lastI (hs9 I J t) (hs9 I J t i) i
theorem nI_lt0 {n : Nat} (h : n < 2 ^ 31) : ¬ nI n < 0 := nI_pos h
theorem c_Ta_chainOf (l : Launch) (D : va_G) (g : GM) (I : MI) (J : MJ) {t : Nat} (key : Int32) (w : Int64) : Ct l yTa_chainOf bTa_chainOf 4 (some .int) (rmN 0 0) D [.ref t, .int key, .long w] g I J (PF (some (.int (hsh key w))) g I J) := by
  refine Ct.of (by decide) (ble rfl) [some (.ref t), some (.int key), some (.long w), none] rfl ?_
  intro x C M
  refine v_lload_n C 2 dTa_chainOf_0 rfl rfl ?_
  refine v_ldc2 C w262 dTa_chainOf_1 ?_
  refine v_lmul C dTa_chainOf_4 ?_
  refine v_iload_n C 1 dTa_chainOf_5 rfl rfl ?_
  refine v_i2l C dTa_chainOf_6 ?_
  refine v_ldc2 C w263 dTa_chainOf_7 ?_
  refine v_lmul C dTa_chainOf_10 ?_
  refine v_ladd C dTa_chainOf_11 ?_
  refine v_bipush C 54 dTa_chainOf_12 (by decide) ?_
  refine v_lushr C dTa_chainOf_14 ?_
  refine v_l2i C dTa_chainOf_15 ?_
  exact v_iret C M dTa_chainOf_16 (ble rfl) (ble rfl) (pf_i rfl rfl rfl)
theorem c_Ta_findIn (l : Launch) (D : va_G) (g : GM) (I : MI) (J : MJ) {t n : Nat} (key : Int32) (w : Int64) (hT : TaAt g t) (hok : TabOK I J t n) : Ct l yTa_findIn bTa_findIn 7 (some .int) (rmN 0 0) D [.ref t, .int (hsh key w), .int key, .long w] g I J (PF (some (.int (lk (I (t + 1)) (J (t + 2)) key w n))) g I J) := by
  refine Ct.of (by decide) (ble rfl) [some (.ref t), some (.int (hsh key w)), some (.int key), some (.long w), none, none, none] rfl ?_
  intro x C M
  obtain ⟨t0, t1, t2, t3, t4, r0, r1, r2, r3⟩ := hT
  obtain ⟨hn, hc, hch, hli⟩ := hok
  obtain ⟨c, hc1, hc2⟩ := hsh_in key w
  refine v_aload_n C 0 dTa_findIn_0 rfl rfl ?_
  refine v_getr C cfTa (k := 2) (by assumption) rfl (by assumption) w41 dTa_findIn_1 ?_
  refine v_iload_n C 1 dTa_findIn_4 rfl rfl ?_
  have hin : vp_in (hsh key w) 1024 := by rw [hc2]; exact vp_in_nI hc1 (by decide)
  refine v_iald C (by assumption) (by assumption) dTa_findIn_5 ?_
  have e0 : I (t + 3) (hsh key w).toNatClampNeg = lastI (hs9 I J t) (hsh key w) n := by
    rw [hc2, nI_clamp (by omega)]
    exact hch c hc1
  rw [e0]
  refine v_istore C dTa_findIn_6 (ble rfl) rfl ?_
  refine v_aload_n C 0 dTa_findIn_8 rfl rfl ?_
  refine v_geti C cfTa (k := 4) (by assumption) rfl w43 dTa_findIn_9 ?_
  rw [hc]
  refine v_istore C dTa_findIn_12 (ble rfl) rfl ?_
  have loop : ∀ (q m : Nat), m ≤ q → q ≤ n → m ≤ n → lk (I (t + 1)) (J (t + 2)) key w m = lk (I (t + 1)) (J (t + 2)) key w n → V x g 0 0 I J 14 [some (.ref t), some (.int (hsh key w)), some (.int key), some (.long w), none, some (.int (lastI (hs9 I J t) (hsh key w) m)), some (.int (nI q))] [] := by
    intro q
    induction q with
    | zero =>
      intro m h1 h2 h3 he
      have hm : m = 0 := by omega
      subst hm
      refine v_iload C dTa_findIn_14 rfl ?_
      refine v_if_le C 65 dTa_findIn_16 (by decide) (fun _ => ?_) (fun h => absurd (by rw [nI_0]; decide) h)
      refine v_iconst C (-1) dTa_findIn_65 (by decide) ?_
      exact v_iret C M dTa_findIn_66 (ble rfl) (ble rfl) (pf_i (by rw [← he]; rfl) rfl rfl)
    | succ q ih =>
      intro m h1 h2 h3 he
      refine v_iload C dTa_findIn_14 rfl ?_
      refine v_if_le C 65 dTa_findIn_16 (by decide) (fun h => absurd h (nI_nle (Nat.succ_pos q) (by omega))) (fun _ => ?_)
      refine v_iload C dTa_findIn_19 rfl ?_
      rcases lastI_spec (hs9 I J t) (hsh key w) m with ⟨e1, e2⟩ | ⟨i, i1, i2, i3, i4⟩
      · rw [e1]
        refine v_if_lt C 65 dTa_findIn_21 (by decide) (fun _ => ?_) (fun h => absurd (by decide) h)
        refine v_iconst C (-1) dTa_findIn_65 (by decide) ?_
        refine v_iret C M dTa_findIn_66 (ble rfl) (ble rfl) (pf_i ?_ rfl rfl)
        rw [← he, lk_skip (i := 0) m (Nat.zero_le _) (fun k _ k2 hk => e2 k k2 (by unfold hs9; rw [hk.1, hk.2]))]
        rfl
      · rw [i2]
        refine v_if_lt C 65 dTa_findIn_21 (by decide) (fun h => absurd h (nI_lt0 (by omega))) (fun _ => ?_)
        have hi2 : vp_in (nI i) 2000 := vp_in_nI (by omega) (by decide)
        have hcl : (nI i).toNatClampNeg = i := nI_clamp (by omega)
        have hsk : lk (I (t + 1)) (J (t + 2)) key w m = lk (I (t + 1)) (J (t + 2)) key w (i + 1) := lk_skip m i1 (fun k k1 k2 hk => i4 k k1 k2 (by unfold hs9; rw [hk.1, hk.2]))
        have next : ¬ (I (t + 1) i = key ∧ J (t + 2) i = w) → V x g 0 0 I J 50 [some (.ref t), some (.int (hsh key w)), some (.int key), some (.long w), none, some (.int (nI i)), some (.int (nI (q + 1)))] [] := by
          intro hno
          refine v_aload_n C 0 dTa_findIn_50 rfl rfl ?_
          refine v_getr C cfTa (k := 3) (by assumption) rfl (by assumption) w42 dTa_findIn_51 ?_
          refine v_iload C dTa_findIn_54 rfl ?_
          refine v_iald C (by assumption) (by assumption) dTa_findIn_56 ?_
          rw [hcl, hli i (by omega), i3]
          refine v_istore C dTa_findIn_57 (ble rfl) rfl ?_
          refine v_iinc C (nI q) dTa_findIn_59 rfl (pk_m1 q) (ble rfl) rfl ?_
          refine v_goto C 14 dTa_findIn_62 (by decide) ?_
          refine ih i (by omega) (by omega) (by omega) ?_
          rw [← he, hsk]
          show _ = (if _ then _ else _)
          rw [if_neg hno]
        refine v_aload_n C 0 dTa_findIn_24 rfl rfl ?_
        refine v_getr C cfTa (k := 0) (by assumption) rfl (by assumption) w37 dTa_findIn_25 ?_
        refine v_iload C dTa_findIn_28 rfl ?_
        refine v_iald C (by assumption) (by assumption) dTa_findIn_30 ?_
        rw [hcl]
        refine v_iload_n C 2 dTa_findIn_31 rfl rfl ?_
        refine v_icmp_ne C 50 dTa_findIn_32 (by decide) (fun c32 => ?_) (fun c32 => ?_)
        · exact next (fun h => c32 h.1)
        · have c32 : I (t + 1) i = key := by simpa using c32
          refine v_aload_n C 0 dTa_findIn_35 rfl rfl ?_
          refine v_getr C cfTa (k := 1) (by assumption) rfl (by assumption) w39 dTa_findIn_36 ?_
          refine v_iload C dTa_findIn_39 rfl ?_
          refine v_lald C (by assumption) (by assumption) dTa_findIn_41 ?_
          rw [hcl]
          refine v_lload_n C 3 dTa_findIn_42 rfl rfl ?_
          refine v_lcmp C dTa_findIn_43 ?_
          refine v_if_ne C 50 dTa_findIn_44 (by decide) (fun c44 => ?_) (fun c44 => ?_)
          · exact next (fun h => c44 (by rw [h.2]; exact lcmpE.mpr rfl))
          · have c44 : J (t + 2) i = w := lcmpE.mp (by simpa using c44)
            refine v_iload C dTa_findIn_47 rfl ?_
            refine v_iret C M dTa_findIn_49 (ble rfl) (ble rfl) (pf_i ?_ rfl rfl)
            rw [← he, hsk]
            show _ = (if _ then _ else _)
            rw [if_pos ⟨c32, c44⟩]
  exact loop n n (Nat.le_refl _) (Nat.le_refl _) (Nat.le_refl _) rfl
theorem c_Ta_find (l : Launch) (D : va_G) (g : GM) (I : MI) (J : MJ) {t n : Nat} (key : Int32) (w : Int64) (hT : TaAt g t) (hok : TabOK I J t n) : Ct l yTa_find bTa_find 4 (some .int) (rmN 1 26) D [.ref t, .int key, .long w] g I J (PF (some (.int (lk (I (t + 1)) (J (t + 2)) key w n))) g I J) := by
  refine Ct.of (by decide) (ble rfl) [some (.ref t), some (.int key), some (.long w), none] rfl ?_
  intro x C M
  have t0 := hT.1
  refine v_aload_n C 0 dTa_find_0 rfl rfl ?_
  refine v_aload_n C 0 dTa_find_1 rfl rfl ?_
  refine v_iload_n C 1 dTa_find_2 rfl rfl ?_
  refine v_lload_n C 2 dTa_find_3 rfl rfl ?_
  refine v_cVi C (c_Ta_chainOf (kl x) (kD x) g I J key w) mwTa_chainOf cfTa (by assumption) w260 ws2 w258 rfl rfl (ble rfl) (ble rfl) (ble rfl) (ble rfl) (ble rfl) dTa_find_4 ?_
  refine v_iload_n C 1 dTa_find_7 rfl rfl ?_
  refine v_lload_n C 2 dTa_find_8 rfl rfl ?_
  refine v_cVi C (c_Ta_findIn (kl x) (kD x) g I J key w hT hok) mwTa_findIn cfTa (by assumption) w266 ws3 w264 rfl rfl (ble rfl) (ble rfl) (ble rfl) (ble rfl) (ble rfl) dTa_find_9 ?_
  exact v_iret C M dTa_find_12 (ble rfl) (ble rfl) (pf_i rfl rfl rfl)
end
section
def keepR (I : MI) (J : MJ) (t n : Nat) (key : Int32) (w : Int64) (I2 : MI) (J2 : MJ) : Prop := TabOK I2 J2 t (n + 1) ∧ I2 (t + 1) n = key ∧ J2 (t + 2) n = w ∧ (∀ j, j ≠ n → I2 (t + 1) j = I (t + 1) j) ∧ (∀ j, j ≠ n → J2 (t + 2) j = J (t + 2) j) ∧ (∀ b, b < t ∨ t + 5 ≤ b → I2 b = I b) ∧ ∀ b, b < t ∨ t + 5 ≤ b → J2 b = J b
def keepQ (g : GM) (I : MI) (J : MJ) (t n : Nat) (key : Int32) (w : Int64) : Option Value → GM → MI → MJ → Prop := fun v g2 I2 J2 => g2 = g ∧ ((lk (I (t + 1)) (J (t + 2)) key w n ≠ -1 ∨ n = 2000) ∧ v = some (.int (lk (I (t + 1)) (J (t + 2)) key w n)) ∧ I2 = I ∧ J2 = J ∨ lk (I (t + 1)) (J (t + 2)) key w n = -1 ∧ n < 2000 ∧ v = some (.int (nI n)) ∧ keepR I J t n key w I2 J2)
theorem keep_ok {I : MI} {J : MJ} {t n c : Nat} {key : Int32} {w : Int64} (hok : TabOK I J t n) (hn : n < 2000) (hc : hsh key w = nI c) (hc1 : c < 1024) : keepR I J t n key w (s2 (s2 (s2 (s2 I (t + 1) n key) (t + 4) n (I (t + 3) c)) (t + 3) c (nI n)) t 4 (nI (n + 1))) (s2 J (t + 2) n w) := by
  obtain ⟨h1, h2, h3, h4⟩ := hok
  have eK : ∀ j, (s2 (s2 (s2 (s2 I (t + 1) n key) (t + 4) n (I (t + 3) c)) (t + 3) c (nI n)) t 4 (nI (n + 1))) (t + 1) j = if j = n then key else I (t + 1) j := fun j => by
    rw [s2_a (by omega), s2_a (by omega), s2_a (by omega), s2_row]
  have eW : ∀ j, (s2 J (t + 2) n w) (t + 2) j = if j = n then w else J (t + 2) j := fun j => by rw [s2_row]
  have eC : ∀ j, (s2 (s2 (s2 (s2 I (t + 1) n key) (t + 4) n (I (t + 3) c)) (t + 3) c (nI n)) t 4 (nI (n + 1))) (t + 3) j = if j = c then nI n else I (t + 3) j := fun j => by
    rw [s2_a (by omega), s2_row]
    show (if _ then _ else _) = _
    by_cases hj : j = c
    · rw [if_pos hj, if_pos hj]
    · rw [if_neg hj, if_neg hj, s2_a (by omega), s2_a (by omega)]
  have eL : ∀ j, (s2 (s2 (s2 (s2 I (t + 1) n key) (t + 4) n (I (t + 3) c)) (t + 3) c (nI n)) t 4 (nI (n + 1))) (t + 4) j = if j = n then I (t + 3) c else I (t + 4) j := fun j => by
    rw [s2_a (by omega), s2_a (by omega), s2_row]
    show (if _ then _ else _) = _
    by_cases hj : j = n
    · rw [if_pos hj, if_pos hj]
    · rw [if_neg hj, if_neg hj, s2_a (by omega)]
  have eH : ∀ i, i < n → hs9 (s2 (s2 (s2 (s2 I (t + 1) n key) (t + 4) n (I (t + 3) c)) (t + 3) c (nI n)) t 4 (nI (n + 1))) (s2 J (t + 2) n w) t i = hs9 I J t i := fun i hi => by
    unfold hs9
    rw [eK, eW, if_neg (by omega), if_neg (by omega)]
  have eN : hs9 (s2 (s2 (s2 (s2 I (t + 1) n key) (t + 4) n (I (t + 3) c)) (t + 3) c (nI n)) t 4 (nI (n + 1))) (s2 J (t + 2) n w) t n = nI c := by
    unfold hs9
    rw [eK, eW, if_pos rfl, if_pos rfl, hc]
  refine ⟨⟨by omega, s2_self _ _ _ _, fun q hq => ?_, fun i hi => ?_⟩, by rw [eK, if_pos rfl], by rw [eW, if_pos rfl], fun j hj => by rw [eK, if_neg hj], fun j hj => by rw [eW, if_neg hj], fun b hb => ?_, fun b hb => ?_⟩
  · rw [eC]
    simp only [lastI]
    rw [eN, lastI_congr n eH]
    by_cases hqc : q = c
    · rw [if_pos hqc, if_pos (by rw [hqc])]
    · rw [if_neg hqc, if_neg (fun h => hqc ((nI_eq (by omega) (by omega)).mp h).symm)]
      exact h3 q hq
  · rw [eL]
    rcases Nat.lt_succ_iff_lt_or_eq.mp hi with hi | hi
    · rw [if_neg (by omega), eH i hi, lastI_congr i (fun k hk => eH k (by omega))]
      exact h4 i hi
    · rw [if_pos hi, hi, eN, lastI_congr n eH]
      exact h3 c hc1
  · rw [s2_off (by omega), s2_off (by omega), s2_off (by omega), s2_off (by omega)]
  · rw [s2_off (by omega)]
theorem c_Ta_keep (l : Launch) (D : va_G) (g : GM) (I : MI) (J : MJ) {t n : Nat} (key : Int32) (w : Int64) (hT : TaAt g t) (hok : TabOK I J t n) : Ct l yTa_keep bTa_keep 6 (some .int) (rmN 1 26) D [.ref t, .int key, .long w] g I J (keepQ g I J t n key w) := by
  refine Ct.of (by decide) (ble rfl) [some (.ref t), some (.int key), some (.long w), none, none, none] rfl ?_
  intro x C M
  obtain ⟨t0, t1, t2, t3, t4, r0, r1, r2, r3⟩ := id hT
  obtain ⟨hn, hc, hch, hli⟩ := id hok
  obtain ⟨c, hc1, hc2⟩ := hsh_in key w
  have hin : vp_in (hsh key w) 1024 := by rw [hc2]; exact vp_in_nI hc1 (by decide)
  have hcc : (hsh key w).toNatClampNeg = c := by rw [hc2, nI_clamp (by omega)]
  refine v_aload_n C 0 dTa_keep_0 rfl rfl ?_
  refine v_iload_n C 1 dTa_keep_1 rfl rfl ?_
  refine v_lload_n C 2 dTa_keep_2 rfl rfl ?_
  refine v_cVi C (c_Ta_chainOf (kl x) (kD x) g I J key w) mwTa_chainOf cfTa (by assumption) w260 ws2 w258 rfl rfl (ble rfl) (ble rfl) (ble rfl) (ble rfl) (ble rfl) dTa_keep_3 ?_
  refine v_istore C dTa_keep_6 (ble rfl) rfl ?_
  refine v_aload_n C 0 dTa_keep_8 rfl rfl ?_
  refine v_iload C dTa_keep_9 rfl ?_
  refine v_iload_n C 1 dTa_keep_11 rfl rfl ?_
  refine v_lload_n C 2 dTa_keep_12 rfl rfl ?_
  refine v_cVi C (c_Ta_findIn (kl x) (kD x) g I J key w hT hok) mwTa_findIn cfTa (by assumption) w266 ws3 w264 rfl rfl (ble rfl) (ble rfl) (ble rfl) (ble rfl) (ble rfl) dTa_keep_13 ?_
  refine v_istore C dTa_keep_16 (ble rfl) rfl ?_
  refine v_iload C dTa_keep_18 rfl ?_
  refine v_iconst C (-1) dTa_keep_20 (by decide) ?_
  have out : lk (I (t + 1)) (J (t + 2)) key w n ≠ -1 ∨ n = 2000 → V x g 0 0 I J 34 [some (.ref t), some (.int key), some (.long w), none, some (.int (hsh key w)), some (.int (lk (I (t + 1)) (J (t + 2)) key w n))] [] := by
    intro h
    refine v_iload C dTa_keep_34 rfl ?_
    exact v_iret C M dTa_keep_36 (ble rfl) (ble rfl) ⟨rfl, Or.inl ⟨h, rfl, rfl, rfl⟩⟩
  refine v_icmp_ne C 34 dTa_keep_21 (by decide) (fun c21 => ?_) (fun c21 => ?_)
  · exact out (Or.inl c21)
  · have c21 : lk (I (t + 1)) (J (t + 2)) key w n = -1 := by simpa using c21
    refine v_aload_n C 0 dTa_keep_24 rfl rfl ?_
    refine v_geti C cfTa (k := 4) (by assumption) rfl w43 dTa_keep_25 ?_
    rw [hc]
    refine v_sipush C 2000 dTa_keep_28 (by decide) ?_
    refine v_icmp_lt C 37 dTa_keep_31 (by decide) (fun c31 => ?_) (fun c31 => ?_)
    · have hlt : n < 2000 := by
        have h : nI n < nI 2000 := c31
        exact (nI_ltI (by omega) (by decide)).mp h
      have hcl : (nI n).toNatClampNeg = n := nI_clamp (by omega)
      have hi2 : vp_in (nI n) 2000 := vp_in_nI hlt (by decide)
      refine v_aload_n C 0 dTa_keep_37 rfl rfl ?_
      refine v_getr C cfTa (k := 0) (by assumption) rfl (by assumption) w37 dTa_keep_38 ?_
      refine v_aload_n C 0 dTa_keep_41 rfl rfl ?_
      refine v_geti C cfTa (k := 4) (by assumption) rfl w43 dTa_keep_42 ?_
      rw [hc]
      refine v_iload_n C 1 dTa_keep_45 rfl rfl ?_
      refine v_iast C (by assumption) (by assumption) dTa_keep_46 ?_
      rw [hcl]
      refine v_aload_n C 0 dTa_keep_47 rfl rfl ?_
      refine v_getr C cfTa (k := 1) (by assumption) rfl (by assumption) w39 dTa_keep_48 ?_
      refine v_aload_n C 0 dTa_keep_51 rfl rfl ?_
      refine v_geti C cfTa (k := 4) (by assumption) rfl w43 dTa_keep_52 ?_
      rw [s2_a (show t ≠ t + 1 by omega), hc]
      refine v_lload_n C 2 dTa_keep_55 rfl rfl ?_
      refine v_last C (by assumption) (by assumption) dTa_keep_56 ?_
      rw [hcl]
      refine v_aload_n C 0 dTa_keep_57 rfl rfl ?_
      refine v_getr C cfTa (k := 3) (by assumption) rfl (by assumption) w42 dTa_keep_58 ?_
      refine v_aload_n C 0 dTa_keep_61 rfl rfl ?_
      refine v_geti C cfTa (k := 4) (by assumption) rfl w43 dTa_keep_62 ?_
      rw [s2_a (show t ≠ t + 1 by omega), hc]
      refine v_aload_n C 0 dTa_keep_65 rfl rfl ?_
      refine v_getr C cfTa (k := 2) (by assumption) rfl (by assumption) w41 dTa_keep_66 ?_
      refine v_iload C dTa_keep_69 rfl ?_
      refine v_iald C (by assumption) (by assumption) dTa_keep_71 ?_
      rw [s2_a (show t + 3 ≠ t + 1 by omega), hcc]
      refine v_iast C (by assumption) (by assumption) dTa_keep_72 ?_
      rw [hcl]
      refine v_aload_n C 0 dTa_keep_73 rfl rfl ?_
      refine v_getr C cfTa (k := 2) (by assumption) rfl (by assumption) w41 dTa_keep_74 ?_
      refine v_iload C dTa_keep_77 rfl ?_
      refine v_aload_n C 0 dTa_keep_79 rfl rfl ?_
      refine v_geti C cfTa (k := 4) (by assumption) rfl w43 dTa_keep_80 ?_
      rw [s2_a (show t ≠ t + 4 by omega), s2_a (show t ≠ t + 1 by omega), hc]
      refine v_iast C (by assumption) (by assumption) dTa_keep_83 ?_
      rw [hcc]
      refine v_aload_n C 0 dTa_keep_84 rfl rfl ?_
      refine v_dup C dTa_keep_85 rfl ?_
      refine v_geti C cfTa (k := 4) (by assumption) rfl w43 dTa_keep_86 ?_
      rw [s2_a (show t ≠ t + 3 by omega), s2_a (show t ≠ t + 4 by omega), s2_a (show t ≠ t + 1 by omega), hc]
      refine v_iconst C 1 dTa_keep_89 (by decide) ?_
      refine v_iadd C dTa_keep_90 ?_
      refine v_puti C cfTa (k := 4) (by assumption) rfl w43 rfl rfl rfl dTa_keep_91 ?_
      refine v_aload_n C 0 dTa_keep_94 rfl rfl ?_
      refine v_geti C cfTa (k := 4) (by assumption) rfl w43 dTa_keep_95 ?_
      rw [s2_self, nI_1]
      refine v_iconst C 1 dTa_keep_98 (by decide) ?_
      refine v_isub C dTa_keep_99 ?_
      rw [nI_pred]
      exact v_iret C M dTa_keep_100 (ble rfl) (ble rfl) ⟨rfl, Or.inr ⟨c21, hlt, rfl, keep_ok hok hlt hc2 hc1⟩⟩
    · have hge : n = 2000 := by
        have h : ¬ nI n < nI 2000 := c31
        rw [nI_ltI (by omega) (by decide)] at h
        omega
      exact out (Or.inr hge)
theorem c_Ar_fill (l : Launch) (D : va_G) (g : GM) (I : MI) (J : MJ) {a n : Nat} (v : Int32) (ha : g.1 a = (10, n)) (hn : n < 2 ^ 31) : Ct l yAr_fill bAr_fill 4 none (rmN 0 0) D [.ref a, .int v] g I J (fun rv g2 I2 J2 => rv = none ∧ g2 = g ∧ J2 = J ∧ (∀ b, b ≠ a → I2 b = I b) ∧ ∀ j, j < n → I2 a j = v) := by
  refine Ct.of (by decide) (ble rfl) [some (.ref a), some (.int v), none, none] rfl ?_
  intro x C M
  refine v_iconst C 0 dAr_fill_0 (by decide) ?_
  refine v_istore_n C 2 dAr_fill_1 rfl (ble rfl) rfl ?_
  refine v_aload_n C 0 dAr_fill_2 rfl rfl ?_
  refine v_ialen C (nI n) ha rfl dAr_fill_3 ?_
  refine v_istore_n C 3 dAr_fill_4 rfl (ble rfl) rfl ?_
  have loop : ∀ (m i : Nat) (I2 : MI), i + m = n → (∀ b, b ≠ a → I2 b = I b) → (∀ j, j < i → I2 a j = v) → V x g 0 0 I2 J 5 [some (.ref a), some (.int v), some (.int (nI i)), some (.int (nI n))] [] := by
    intro m
    induction m with
    | zero =>
      intro i I2 h1 h2 h3
      refine v_iload_n C 2 dAr_fill_5 rfl rfl ?_
      refine v_iload_n C 3 dAr_fill_6 rfl rfl ?_
      refine v_icmp_ge C 20 dAr_fill_7 (by decide) (fun _ => ?_) (fun h => absurd (nI_le (by omega) (by omega)) h)
      exact v_vret C M dAr_fill_20 (ble rfl) (ble rfl) ⟨rfl, rfl, rfl, h2, fun j hj => h3 j (by omega)⟩
    | succ m ih =>
      intro i I2 h1 h2 h3
      refine v_iload_n C 2 dAr_fill_5 rfl rfl ?_
      refine v_iload_n C 3 dAr_fill_6 rfl rfl ?_
      refine v_icmp_ge C 20 dAr_fill_7 (by decide) (fun h => absurd h (nI_ge (by omega) hn)) (fun _ => ?_)
      have hi : vp_in (nI i) n := vp_in_nI (by omega) hn
      refine v_aload_n C 0 dAr_fill_10 rfl rfl ?_
      refine v_iload_n C 2 dAr_fill_11 rfl rfl ?_
      refine v_iload_n C 1 dAr_fill_12 rfl rfl ?_
      refine v_iast C (by assumption) (by assumption) dAr_fill_13 ?_
      refine v_iinc C (nI (i + 1)) dAr_fill_14 rfl (nI_1 i) (ble rfl) rfl ?_
      refine v_goto C 5 dAr_fill_17 (by decide) ?_
      rw [nI_clamp (by omega)]
      refine ih (i + 1) _ (by omega) (fun b hb => by rw [s2_off hb]; exact h2 b hb) (fun j hj => ?_)
      rcases Nat.lt_succ_iff_lt_or_eq.mp hj with h | h
      · rw [s2_k (by omega)]
        exact h3 j h
      · rw [h, s2_self]
  exact loop n 0 I (by omega) (fun _ _ => rfl) (fun j hj => absurd hj (Nat.not_lt_zero j))
theorem c_Ta_makeEmpty (l : Launch) (D : va_G) (g : GM) (I : MI) (J : MJ) {t : Nat} (hT : TaAt g t) : Ct l yTa_makeEmpty bTa_makeEmpty 1 none (rmN 1 23) D [.ref t] g I J (fun rv g2 I2 J2 => rv = none ∧ g2 = g ∧ J2 = J ∧ TabOK I2 J2 t 0 ∧ ∀ b, b < t ∨ t + 5 ≤ b → I2 b = I b) := by
  refine Ct.of (by decide) (ble rfl) [some (.ref t)] rfl ?_
  intro x C M
  obtain ⟨t0, t1, t2, t3, t4, r0, r1, r2, r3⟩ := id hT
  refine v_aload_n C 0 dTa_makeEmpty_0 rfl rfl ?_
  refine v_iconst C 0 dTa_makeEmpty_1 (by decide) ?_
  refine v_puti C cfTa (k := 4) (by assumption) rfl w43 rfl rfl rfl dTa_makeEmpty_2 ?_
  refine v_aload_n C 0 dTa_makeEmpty_5 rfl rfl ?_
  refine v_getr C cfTa (k := 2) (by assumption) rfl (by assumption) w41 dTa_makeEmpty_6 ?_
  refine v_iconst C (-1) dTa_makeEmpty_9 (by decide) ?_
  refine v_callS C (c_Ar_fill (kl x) (kD x) g (s2 I t 4 0) J (-1) t3 (by decide)) mwAr_fill w109 w253 rfl rfl (ble rfl) (ble rfl) (ble rfl) (ble rfl) (ble rfl) dTa_makeEmpty_10 ?_
  rintro v g2 I2 J2 ⟨rfl, rfl, rfl, h1, h2⟩
  refine v_vret C M dTa_makeEmpty_13 (ble rfl) (ble rfl) ⟨rfl, rfl, rfl, ⟨Nat.zero_le _, ?_, fun c hc => h2 c hc, fun i hi => absurd hi (Nat.not_lt_zero i)⟩, fun b hb => ?_⟩
  · rw [h1 t (by omega), s2_self]
    rfl
  · rw [h1 b (by omega), s2_off (by omega)]
end
section
/-! Space: s the object, s+1 its table (to s+5), s+6 its state, s+7 ways, s+8 hopeful. Subject: u the object, u+1 the operations' row, u+2 its space (to u+10), u+11 backEvents, u+12 backCounts, u+13 backSets, u+14 .. u+29 the operations -/
def SpAt (g : GM) (s : Nat) : Prop := g.1 s = (1, 0) ∧ TaAt g (s + 1) ∧ g.1 (s + 6) = (2, 0) ∧ g.1 (s + 7) = (11, 2000) ∧ g.1 (s + 8) = (12, 2000) ∧ g.2.1 s 0 = some (s + 1) ∧ g.2.1 s 1 = some (s + 6) ∧ g.2.1 s 2 = some (s + 7) ∧ g.2.1 s 3 = some (s + 8)
def SuAt (g : GM) (u : Nat) : Prop := g.1 u = (3, 0) ∧ OpsAt g (u + 1) (u + 14) ∧ SpAt g (u + 2) ∧ g.1 (u + 11) = (10, 16) ∧ g.1 (u + 12) = (10, 16) ∧ g.1 (u + 13) = (10, 16) ∧ g.2.1 u 0 = some (u + 1) ∧ g.2.1 u 1 = some (u + 2) ∧ g.2.1 u 2 = some (u + 11) ∧ g.2.1 u 3 = some (u + 12) ∧ g.2.1 u 4 = some (u + 13)
/-- an object's operations by their places: field k of the one at place i -/
abbrev opE (I : MI) (u : Nat) : Nat → Nat → Int32 := fun i k => I (u + 14 + i) k
def chgE (E : Nat → Nat → Int32) (kind : Int32) (p : Nat) (w : Int64) (sz : Int32) : Int64 × Int32 × Int32 := chg kind (E p 1) (E p 2) (E p 3) (E p 4) (fun i => E i 2) (fun i => E i 3) w sz
abbrev barred (E : Nat → Nat → Int32) (own key : Int32) (p : Nat) : Prop := (jiu (key &&& 65535) (nI p) &&& 1) ≠ 0 ∨ ((if own = 0 then E p 6 else E p 7) &&& ((key &&& 65535) ^^^ (-1))) ≠ 0
abbrev suits (E : Nat → Nat → Int32) (ret : Int32) (p : Nat) (res : Int32) : Prop := (jiu ret (nI p) &&& 1) = 0 ∨ res = E p 5
/-- word, size and result behind the operation at place p, where it can be done next -/
def stp (E : Nat → Nat → Int32) (kind ret own key : Int32) (w : Int64) (p : Nat) : Option (Int64 × Int32 × Int32) :=
  if barred E own key p then none else if suits E ret p (chgE E kind p w (jiu key 16)).2.2 then some (chgE E kind p w (jiu key 16)) else none
theorem ix15 (y : Int32) : ix (y &&& 15) < 16 := by
  obtain ⟨q, hq, e⟩ := pk_andE y (m := 15) 4 (by decide)
  show (y &&& 15).toNatClampNeg < 16
  rw [e, nI_clamp (by omega)]
  exact hq
theorem plc_congr {av av2 : Nat → Int32} {k sz : Int32} (h : ∀ i, i < 16 → av i = av2 i) : ∀ (n : Nat) (p : Int32) (w : Int64), plc av k sz n p w = plc av2 k sz n p w
  | 0, _, _ => rfl
  | n + 1, p, w => by
    simp only [plc]
    rw [h _ (ix15 _), plc_congr h n]
theorem chg_congr {kind code a b nm : Int32} {av av2 bv bv2 : Nat → Int32} {w : Int64} {sz : Int32} (h1 : ∀ i, i < 16 → av i = av2 i) (h2 : ∀ i, i < 16 → bv i = bv2 i) : chg kind code a b nm av bv w sz = chg kind code a b nm av2 bv2 w sz := by
  have e1 : chMap code a b nm bv w = chMap code a b nm bv2 w := by
    unfold chMap
    rw [h2 _ (ix15 _)]
  have e2 : chSeq kind code a nm av w sz = chSeq kind code a nm av2 w sz := by
    unfold chSeq remN
    rw [plc_congr h1, h1 _ (ix15 _)]
  unfold chg
  rw [e1, e2]
/-- all cells but the one at a are the same -/
def offA (a : Nat) (I : MI) (J : MJ) (I2 : MI) (J2 : MJ) : Prop := (∀ b, b ≠ a → I2 b = I b) ∧ ∀ b, b ≠ a → J2 b = J b
def stepQ (g : GM) (I : MI) (J : MJ) (s : Nat) (o : Option (Int64 × Int32 × Int32)) : Option Value → GM → MI → MJ → Prop := fun v g2 I2 J2 => g2 = g ∧ offA (s + 6) I J I2 J2 ∧ (o = none ∧ v = some (.int 0) ∨ ∃ c, o = some c ∧ v = some (.int 1) ∧ J2 (s + 6) 0 = c.1 ∧ I2 (s + 6) 1 = c.2.1 ∧ I2 (s + 6) 2 = c.2.2)
theorem c_Sp_step (l : Launch) (D : va_G) (g : GM) (I : MI) (J : MJ) {s u f p sz : Nat} (hS : SpAt g s) (hU : SuAt g u) (hf : f < 2000) (hp : p < 16) (hsz : jiu (I (s + 1 + 1) f) 16 = nI sz) (hsz2 : sz ≤ 16) : Ct l ySp_step bSp_step 8 (some .boolean) (rmN 3 73) D [.ref s, .ref u, .int (nI f), .int (nI p)] g I J (stepQ g I J s (stp (opE I u) (I u 5) (I s 6) (I s 7) (I (s + 1 + 1) f) (J (s + 1 + 2) f) p)) := by
  refine Ct.of (by decide) (ble rfl) [some (.ref s), some (.ref u), some (.int (nI f)), some (.int (nI p)), none, none, none, none] rfl ?_
  intro x C M
  obtain ⟨s0, ⟨t0, t1, t2, t3, t4, r0, r1, r2, r3⟩, s6, s7, s8, sr0, sr1, sr2, sr3⟩ := id hS
  obtain ⟨u0, hO, -, u11, u12, u13, ur0, ur1, ur2, ur3, ur4⟩ := id hU
  have uA := hO.1
  have hfc : (nI f).toNatClampNeg = f := nI_clamp (by omega)
  have hfi : vp_in (nI f) 2000 := vp_in_nI hf (by decide)
  have hpc : (nI p).toNatClampNeg = p := nI_clamp (by omega)
  have hpi : vp_in (nI p) 16 := vp_in_nI hp (by decide)
  have hor : g.2.1 (u + 1) (nI p).toNatClampNeg = some (u + 14 + p) := by rw [hpc]; exact (hO.2 p hp).1
  have ho : g.1 (u + 14 + p) = (0, 0) := (hO.2 p hp).2
  have ne1 : ∀ i, i < 16 → u + 14 + i ≠ s + 6 := fun i hi => sh_ne (hO.2 i hi).2 s6 (by decide)
  have ne2 : u ≠ s + 6 := sh_ne u0 s6 (by decide)
  have ne3 : s ≠ s + 6 := by omega
  refine v_aload_n C 0 dSp_step_0 rfl rfl ?_
  refine v_getr C cfSp (k := 0) (by assumption) rfl (by assumption) w79 dSp_step_1 ?_
  refine v_getr C cfTa (k := 0) (by assumption) rfl (by assumption) w38 dSp_step_4 ?_
  refine v_iload_n C 2 dSp_step_7 rfl rfl ?_
  refine v_iald C (by assumption) (by assumption) dSp_step_8 ?_
  rw [hfc]
  refine v_ldc C w272 dSp_step_9 ?_
  refine v_iand C dSp_step_11 ?_
  refine v_istore C dSp_step_12 (ble rfl) rfl ?_
  refine v_aload_n C 1 dSp_step_14 rfl rfl ?_
  refine v_getr C cfSu (k := 0) (by assumption) rfl (by assumption) w385 dSp_step_15 ?_
  refine v_iload_n C 3 dSp_step_18 rfl rfl ?_
  refine v_pald C (by assumption) (by assumption) (by assumption) dSp_step_19 ?_
  refine v_astore C dSp_step_20 (ble rfl) rfl ?_
  refine v_aload_n C 0 dSp_step_22 rfl rfl ?_
  refine v_geti C cfSp (k := 7) (by assumption) rfl w89 dSp_step_23 ?_
  have key : ∀ need : Int32, need = (if I s 7 = 0 then I (u + 14 + p) 6 else I (u + 14 + p) 7) → V x g 0 0 I J 42 [some (.ref s), some (.ref u), some (.int (nI f)), some (.int (nI p)), some (.int (I (s + 1 + 1) f &&& 65535)), some (.ref (u + 14 + p)), none, none] [.int need] := by
    intro need en
    refine v_istore C dSp_step_42 (ble rfl) rfl ?_
    refine v_iload C dSp_step_44 rfl ?_
    refine v_iload_n C 3 dSp_step_46 rfl rfl ?_
    refine v_iushr C dSp_step_47 ?_
    refine v_iconst C 1 dSp_step_48 (by decide) ?_
    refine v_iand C dSp_step_49 ?_
    have bad : barred (opE I u) (I s 7) (I (s + 1 + 1) f) p → V x g 0 0 I J 63 [some (.ref s), some (.ref u), some (.int (nI f)), some (.int (nI p)), some (.int (I (s + 1 + 1) f &&& 65535)), some (.ref (u + 14 + p)), some (.int need), none] [] := by
      intro hb
      refine v_iconst C 0 dSp_step_63 (by decide) ?_
      exact v_zret C M (by first | exact Or.inl rfl | exact Or.inr rfl | assumption) dSp_step_64 (ble rfl) (ble rfl) ⟨rfl, ⟨fun _ _ => rfl, fun _ _ => rfl⟩, Or.inl ⟨by unfold stp; rw [if_pos hb], rfl⟩⟩
    refine v_if_ne C 63 dSp_step_50 (by decide) (fun c50 => ?_) (fun c50 => ?_)
    · exact bad (Or.inl c50)
    · have c50 : (jiu (I (s + 1 + 1) f &&& 65535) (nI p) &&& 1) = 0 := c50
      refine v_iload C dSp_step_53 rfl ?_
      refine v_iload C dSp_step_55 rfl ?_
      refine v_iconst C (-1) dSp_step_57 (by decide) ?_
      refine v_ixor C dSp_step_58 ?_
      refine v_iand C dSp_step_59 ?_
      refine v_if_eq C 65 dSp_step_60 (by decide) (fun c60 => ?_) (fun c60 => ?_)
      · have hnb : ¬ barred (opE I u) (I s 7) (I (s + 1 + 1) f) p := by
          rintro (h | h)
          · exact h c50
          · exact h (by rw [← en]; exact c60)
        refine v_aload_n C 0 dSp_step_65 rfl rfl ?_
        refine v_getr C cfSp (k := 1) (by assumption) rfl (by assumption) w81 dSp_step_66 ?_
        refine v_aload_n C 0 dSp_step_69 rfl rfl ?_
        refine v_getr C cfSp (k := 0) (by assumption) rfl (by assumption) w79 dSp_step_70 ?_
        refine v_getr C cfTa (k := 1) (by assumption) rfl (by assumption) w40 dSp_step_73 ?_
        refine v_iload_n C 2 dSp_step_76 rfl rfl ?_
        refine v_lald C (by assumption) (by assumption) dSp_step_77 ?_
        refine v_aload_n C 0 dSp_step_78 rfl rfl ?_
        refine v_getr C cfSp (k := 0) (by assumption) rfl (by assumption) w79 dSp_step_79 ?_
        refine v_getr C cfTa (k := 0) (by assumption) rfl (by assumption) w38 dSp_step_82 ?_
        refine v_iload_n C 2 dSp_step_85 rfl rfl ?_
        rw [hfc]
        refine v_iald C (by assumption) (by assumption) dSp_step_86 ?_
        refine v_bipush C 16 dSp_step_87 (by decide) ?_
        refine v_iushr C dSp_step_89 ?_
        rw [hfc]
        refine v_cVv C (c_St_become (kl x) (kD x) g I J _ _ s6) mwSt_become cfSt (by assumption) w274 w275 w273 rfl rfl (ble rfl) (ble rfl) (ble rfl) (ble rfl) (ble rfl) dSp_step_90 ?_
        refine v_aload_n C 0 dSp_step_93 rfl rfl ?_
        refine v_getr C cfSp (k := 1) (by assumption) rfl (by assumption) w81 dSp_step_94 ?_
        refine v_aload_n C 1 dSp_step_97 rfl rfl ?_
        refine v_geti C cfSu (k := 5) (by assumption) rfl w392 dSp_step_98 ?_
        rw [s2_a ne2]
        refine v_aload C dSp_step_101 rfl ?_
        refine v_aload_n C 1 dSp_step_103 rfl rfl ?_
        refine v_getr C cfSu (k := 0) (by assumption) rfl (by assumption) w385 dSp_step_104 ?_
        refine v_cVv C (c_St_change (kl x) (kD x) g _ _ (I u 5) s6 ho hO (by rw [s2_self]; exact hsz) hsz2) mwSt_change cfSt (by assumption) w278 w279 w277 rfl rfl (ble rfl) (ble rfl) (ble rfl) (ble rfl) (ble rfl) dSp_step_107 ?_
        have ec : chgM (s2 I (s + 6) 1 (jiu (I (s + 1 + 1) f) 16)) (I u 5) (u + 14 + p) (u + 14) (s2 J (s + 6) 0 (J (s + 1 + 2) f) (s + 6) 0) (s2 I (s + 6) 1 (jiu (I (s + 1 + 1) f) 16) (s + 6) 1) = chgE (opE I u) (I u 5) p (J (s + 1 + 2) f) (jiu (I (s + 1 + 1) f) 16) := by
          unfold chgM chgE
          rw [s2_self, s2_self, s2_a (ne1 p hp), s2_a (ne1 p hp), s2_a (ne1 p hp), s2_a (ne1 p hp)]
          exact chg_congr (fun i hi => by rw [s2_a (ne1 i hi)]) (fun i hi => by rw [s2_a (ne1 i hi)])
        have hst : stp (opE I u) (I u 5) (I s 6) (I s 7) (I (s + 1 + 1) f) (J (s + 1 + 2) f) p = if suits (opE I u) (I s 6) p (chgE (opE I u) (I u 5) p (J (s + 1 + 2) f) (jiu (I (s + 1 + 1) f) 16)).2.2 then some (chgE (opE I u) (I u 5) p (J (s + 1 + 2) f) (jiu (I (s + 1 + 1) f) 16)) else none := by
          unfold stp
          rw [if_neg hnb]
        have fin : ∀ c, c = chgE (opE I u) (I u 5) p (J (s + 1 + 2) f) (jiu (I (s + 1 + 1) f) 16) → V x g 0 0 (s2 (s2 (s2 I (s + 6) 1 (jiu (I (s + 1 + 1) f) 16)) (s + 6) 1 c.2.1) (s + 6) 2 c.2.2) (s2 (s2 J (s + 6) 0 (J (s + 1 + 2) f)) (s + 6) 0 c.1) 110 [some (.ref s), some (.ref u), some (.int (nI f)), some (.int (nI p)), some (.int (I (s + 1 + 1) f &&& 65535)), some (.ref (u + 14 + p)), some (.int need), none] [] := by
          intro c ecc
          rw [← ecc] at hst
          generalize eI : s2 (s2 (s2 I (s + 6) 1 (jiu (I (s + 1 + 1) f) 16)) (s + 6) 1 c.2.1) (s + 6) 2 c.2.2 = I3
          generalize eJ : s2 (s2 J (s + 6) 0 (J (s + 1 + 2) f)) (s + 6) 0 c.1 = J3
          have o1 : offA (s + 6) I J I3 J3 := ⟨fun b hb => by rw [← eI, s2_off hb, s2_off hb, s2_off hb], fun b hb => by rw [← eJ, s2_off hb, s2_off hb]⟩
          have e1 : J3 (s + 6) 0 = c.1 := by rw [← eJ, s2_self]
          have e2 : I3 (s + 6) 1 = c.2.1 := by rw [← eI, s2_k (by decide), s2_self]
          have e3 : I3 (s + 6) 2 = c.2.2 := by rw [← eI, s2_self]
          have e4 : I3 s 6 = I s 6 := by rw [o1.1 s ne3]
          have e5 : I3 (u + 14 + p) 5 = I (u + 14 + p) 5 := by rw [o1.1 _ (ne1 p hp)]
          have done1 : suits (opE I u) (I s 6) p c.2.2 → ∀ z, V x g 0 0 I3 J3 148 [some (.ref s), some (.ref u), some (.int (nI f)), some (.int (nI p)), some (.int (I (s + 1 + 1) f &&& 65535)), some (.ref (u + 14 + p)), some (.int need), some (.int z)] [] := by
            intro hsu z
            refine v_iconst C 1 dSp_step_148 (by decide) ?_
            refine v_goto C 153 dSp_step_149 (by decide) ?_
            exact v_zret C M (by first | exact Or.inl rfl | exact Or.inr rfl | assumption) dSp_step_153 (ble rfl) (ble rfl) ⟨rfl, o1, Or.inr ⟨c, by rw [hst, if_pos hsu], rfl, e1, e2, e3⟩⟩
          refine v_aload_n C 0 dSp_step_110 rfl rfl ?_
          refine v_geti C cfSp (k := 6) (by assumption) rfl w88 dSp_step_111 ?_
          rw [e4]
          refine v_iload_n C 3 dSp_step_114 rfl rfl ?_
          refine v_iushr C dSp_step_115 ?_
          refine v_iconst C 1 dSp_step_116 (by decide) ?_
          refine v_iand C dSp_step_117 ?_
          have after : ∀ z : Int32, (z = 0 ∨ z = 1) → (z ≠ 0 ↔ (jiu (I s 6) (nI p) &&& 1) = 0) → V x g 0 0 I3 J3 126 [some (.ref s), some (.ref u), some (.int (nI f)), some (.int (nI p)), some (.int (I (s + 1 + 1) f &&& 65535)), some (.ref (u + 14 + p)), some (.int need), none] [.int z] := by
            intro z hz hz2
            refine v_istore C dSp_step_126 (ble rfl) rfl ?_
            refine v_iload C dSp_step_128 rfl ?_
            refine v_if_ne C 148 dSp_step_130 (by decide) (fun c130 => ?_) (fun c130 => ?_)
            · exact done1 (Or.inl (hz2.mp c130)) z
            · refine v_aload_n C 0 dSp_step_133 rfl rfl ?_
              refine v_getr C cfSp (k := 1) (by assumption) rfl (by assumption) w81 dSp_step_134 ?_
              refine v_geti C cfSt (k := 2) (by assumption) rfl w70 dSp_step_137 ?_
              rw [e3]
              refine v_aload C dSp_step_140 rfl ?_
              refine v_geti C cfOp (k := 5) (by assumption) rfl w361 dSp_step_142 ?_
              rw [e5]
              refine v_icmp_ne C 152 dSp_step_145 (by decide) (fun c145 => ?_) (fun c145 => ?_)
              · refine v_iconst C 0 dSp_step_152 (by decide) ?_
                have hns : ¬ suits (opE I u) (I s 6) p c.2.2 := by
                  rintro (h | h)
                  · exact (hz2.mpr h) c130
                  · exact c145 h
                exact v_zret C M (by first | exact Or.inl rfl | exact Or.inr rfl | assumption) dSp_step_153 (ble rfl) (ble rfl) ⟨rfl, o1, Or.inl ⟨by rw [hst, if_neg hns], rfl⟩⟩
              · exact done1 (Or.inr c145) z
          refine v_if_ne C 125 dSp_step_118 (by decide) (fun c118 => ?_) (fun c118 => ?_)
          · refine v_iconst C 0 dSp_step_125 (by decide) ?_
            exact after 0 (Or.inl rfl) ⟨fun h => absurd rfl h, fun h => absurd h c118⟩
          · refine v_iconst C 1 dSp_step_121 (by decide) ?_
            refine v_goto C 126 dSp_step_122 (by decide) ?_
            exact after 1 (Or.inr rfl) ⟨fun _ => c118, fun _ => by decide⟩
        exact fin _ ec
      · exact bad (Or.inr (by rw [← en]; exact c60))
  refine v_if_eq C 37 dSp_step_26 (by decide) (fun c26 => ?_) (fun c26 => ?_)
  · refine v_aload C dSp_step_37 rfl ?_
    refine v_geti C cfOp (k := 6) (by assumption) rfl w363 dSp_step_39 ?_
    exact key _ (by rw [if_pos c26])
  · refine v_aload C dSp_step_29 rfl ?_
    refine v_geti C cfOp (k := 7) (by assumption) rfl w365 dSp_step_31 ?_
    refine v_goto C 42 dSp_step_34 (by decide) ?_
    exact key _ (by rw [if_neg c26])
def keyB (key : Int32) (p : Nat) (sz : Int32) : Int32 := ((key &&& 65535) ||| jish 1 (nI p)) ||| jish sz 16
theorem c_Sp_keyBehind (l : Launch) (D : va_G) (g : GM) (I : MI) (J : MJ) {s f : Nat} (p : Nat) (hS : SpAt g s) (hf : f < 2000) : Ct l ySp_keyBehind bSp_keyBehind 3 (some .int) (rmN 0 0) D [.ref s, .int (nI f), .int (nI p)] g I J (PF (some (.int (keyB (I (s + 1 + 1) f) p (I (s + 6) 1)))) g I J) := by
  refine Ct.of (by decide) (ble rfl) [some (.ref s), some (.int (nI f)), some (.int (nI p))] rfl ?_
  intro x C M
  obtain ⟨s0, ⟨t0, t1, t2, t3, t4, r0, r1, r2, r3⟩, s6, s7, s8, sr0, sr1, sr2, sr3⟩ := id hS
  have hfc : (nI f).toNatClampNeg = f := nI_clamp (by omega)
  have hfi : vp_in (nI f) 2000 := vp_in_nI hf (by decide)
  refine v_aload_n C 0 dSp_keyBehind_0 rfl rfl ?_
  refine v_getr C cfSp (k := 0) (by assumption) rfl (by assumption) w79 dSp_keyBehind_1 ?_
  refine v_getr C cfTa (k := 0) (by assumption) rfl (by assumption) w38 dSp_keyBehind_4 ?_
  refine v_iload_n C 1 dSp_keyBehind_7 rfl rfl ?_
  refine v_iald C (by assumption) (by assumption) dSp_keyBehind_8 ?_
  rw [hfc]
  refine v_ldc C w272 dSp_keyBehind_9 ?_
  refine v_iand C dSp_keyBehind_11 ?_
  refine v_iconst C 1 dSp_keyBehind_12 (by decide) ?_
  refine v_iload_n C 2 dSp_keyBehind_13 rfl rfl ?_
  refine v_ishl C dSp_keyBehind_14 ?_
  refine v_ior C dSp_keyBehind_15 ?_
  refine v_aload_n C 0 dSp_keyBehind_16 rfl rfl ?_
  refine v_getr C cfSp (k := 1) (by assumption) rfl (by assumption) w81 dSp_keyBehind_17 ?_
  refine v_geti C cfSt (k := 1) (by assumption) rfl w68 dSp_keyBehind_20 ?_
  refine v_bipush C 16 dSp_keyBehind_23 (by decide) ?_
  refine v_ishl C dSp_keyBehind_25 ?_
  refine v_ior C dSp_keyBehind_26 ?_
  exact v_iret C M dSp_keyBehind_27 (ble rfl) (ble rfl) (pf_i rfl rfl rfl)
theorem TabOK.off {I I2 : MI} {J J2 : MJ} {t n : Nat} (h : TabOK I J t n) (h1 : ∀ b, t ≤ b → b < t + 5 → I2 b = I b) (h2 : J2 (t + 2) = J (t + 2)) : TabOK I2 J2 t n := by
  have e1 := h1 t (by omega) (by omega)
  have e2 := h1 (t + 1) (by omega) (by omega)
  have e3 := h1 (t + 3) (by omega) (by omega)
  have e4 := h1 (t + 4) (by omega) (by omega)
  have eh : hs9 I2 J2 t = hs9 I J t := by
    funext i
    unfold hs9
    rw [e2, h2]
  unfold TabOK
  rw [e1, e3, e4, eh]
  exact h
def targQ (g : GM) (I : MI) (J : MJ) (s n : Nat) (key : Int32) (p : Nat) (o : Option (Int64 × Int32 × Int32)) : Option Value → GM → MI → MJ → Prop := fun v g2 I2 J2 => g2 = g ∧ offA (s + 6) I J I2 J2 ∧ (o = none ∧ v = some (.int (-1)) ∨ ∃ c, o = some c ∧ v = some (.int (lk (I (s + 1 + 1)) (J (s + 1 + 2)) (keyB key p c.2.1) c.1 n)) ∧ I2 (s + 6) 2 = c.2.2)
theorem c_Sp_target (l : Launch) (D : va_G) (g : GM) (I : MI) (J : MJ) {s u f p sz n : Nat} (hS : SpAt g s) (hU : SuAt g u) (hf : f < 2000) (hp : p < 16) (hsz : jiu (I (s + 1 + 1) f) 16 = nI sz) (hsz2 : sz ≤ 16) (hok : TabOK I J (s + 1) n) : Ct l ySp_target bSp_target 4 (some .int) (rmN 4 100) D [.ref s, .ref u, .int (nI f), .int (nI p)] g I J (targQ g I J s n (I (s + 1 + 1) f) p (stp (opE I u) (I u 5) (I s 6) (I s 7) (I (s + 1 + 1) f) (J (s + 1 + 2) f) p)) := by
  refine Ct.of (by decide) (ble rfl) [some (.ref s), some (.ref u), some (.int (nI f)), some (.int (nI p))] rfl ?_
  intro x C M
  obtain ⟨s0, hT, s6, s7, s8, sr0, sr1, sr2, sr3⟩ := id hS
  have t0 := hT.1
  refine v_aload_n C 0 dSp_target_0 rfl rfl ?_
  refine v_aload_n C 1 dSp_target_1 rfl rfl ?_
  refine v_iload_n C 2 dSp_target_2 rfl rfl ?_
  refine v_iload_n C 3 dSp_target_3 rfl rfl ?_
  refine v_callV C (c_Sp_step (kl x) (kD x) g I J hS hU hf hp hsz hsz2) mwSp_step cfSp (by assumption) w270 ws4 w268 rfl rfl (ble rfl) (ble rfl) (ble rfl) (ble rfl) (ble rfl) dSp_target_4 ?_
  rintro v g2 I2 J2 ⟨rfl, ho, h⟩
  rcases h with ⟨e1, rfl⟩ | ⟨c, e1, rfl, e2, e3, e4⟩
  · refine v_if_ne C 12 dSp_target_7 (by decide) (fun h => absurd (by decide) h) (fun _ => ?_)
    refine v_iconst C (-1) dSp_target_10 (by decide) ?_
    exact v_iret C M dSp_target_11 (ble rfl) (ble rfl) ⟨rfl, ho, Or.inl ⟨e1, rfl⟩⟩
  · refine v_if_ne C 12 dSp_target_7 (by decide) (fun _ => ?_) (fun h => absurd h (by decide))
    have hok2 : TabOK I2 J2 (s + 1) n := hok.off (fun b h1 h2 => ho.1 b (by omega)) (ho.2 _ (by omega))
    have k1 : I2 (s + 1 + 1) = I (s + 1 + 1) := ho.1 _ (by omega)
    have k2 : J2 (s + 1 + 2) = J (s + 1 + 2) := ho.2 _ (by omega)
    refine v_aload_n C 0 dSp_target_12 rfl rfl ?_
    refine v_getr C cfSp (k := 0) (by assumption) rfl (by assumption) w79 dSp_target_13 ?_
    refine v_aload_n C 0 dSp_target_16 rfl rfl ?_
    refine v_iload_n C 2 dSp_target_17 rfl rfl ?_
    refine v_iload_n C 3 dSp_target_18 rfl rfl ?_
    refine v_cVi C (c_Sp_keyBehind (kl x) (kD x) _ I2 J2 p hS hf) mwSp_keyBehind cfSp (by assumption) w314 ws12 w312 rfl rfl (ble rfl) (ble rfl) (ble rfl) (ble rfl) (ble rfl) dSp_target_19 ?_
    rw [e3, k1]
    refine v_aload_n C 0 dSp_target_22 rfl rfl ?_
    refine v_getr C cfSp (k := 1) (by assumption) rfl (by assumption) w81 dSp_target_23 ?_
    refine v_getl C cfSt (k := 0) (by assumption) rfl w66 dSp_target_26 ?_
    rw [e2]
    refine v_cVi C (c_Ta_find (kl x) (kD x) _ I2 J2 _ _ hT hok2) mwTa_find cfTa (by assumption) w611 w612 w610 rfl rfl (ble rfl) (ble rfl) (ble rfl) (ble rfl) (ble rfl) dSp_target_29 ?_
    rw [k1, k2]
    exact v_iret C M dSp_target_32 (ble rfl) (ble rfl) ⟨rfl, ho, Or.inr ⟨c, e1, rfl, e4⟩⟩
abbrev isE (ret key : Int32) : Prop := ret &&& (key ^^^ (-1)) = 0
theorem c_Sp_isEnd (l : Launch) (D : va_G) (g : GM) (I : MI) (J : MJ) {s f : Nat} (hS : SpAt g s) (hf : f < 2000) : Ct l ySp_isEnd bSp_isEnd 2 (some .boolean) (rmN 0 0) D [.ref s, .int (nI f)] g I J (PF (some (.int (if isE (I s 6) (I (s + 1 + 1) f) then 1 else 0))) g I J) := by
  refine Ct.of (by decide) (ble rfl) [some (.ref s), some (.int (nI f))] rfl ?_
  intro x C M
  obtain ⟨s0, ⟨t0, t1, t2, t3, t4, r0, r1, r2, r3⟩, s6, s7, s8, sr0, sr1, sr2, sr3⟩ := id hS
  have hfc : (nI f).toNatClampNeg = f := nI_clamp (by omega)
  have hfi : vp_in (nI f) 2000 := vp_in_nI hf (by decide)
  refine v_aload_n C 0 dSp_isEnd_0 rfl rfl ?_
  refine v_geti C cfSp (k := 6) (by assumption) rfl w88 dSp_isEnd_1 ?_
  refine v_aload_n C 0 dSp_isEnd_4 rfl rfl ?_
  refine v_getr C cfSp (k := 0) (by assumption) rfl (by assumption) w79 dSp_isEnd_5 ?_
  refine v_getr C cfTa (k := 0) (by assumption) rfl (by assumption) w38 dSp_isEnd_8 ?_
  refine v_iload_n C 1 dSp_isEnd_11 rfl rfl ?_
  refine v_iald C (by assumption) (by assumption) dSp_isEnd_12 ?_
  rw [hfc]
  refine v_iconst C (-1) dSp_isEnd_13 (by decide) ?_
  refine v_ixor C dSp_isEnd_14 ?_
  refine v_iand C dSp_isEnd_15 ?_
  refine v_if_ne C 23 dSp_isEnd_16 (by decide) (fun c16 => ?_) (fun c16 => ?_)
  · refine v_iconst C 0 dSp_isEnd_23 (by decide) ?_
    exact v_zret C M (by first | exact Or.inl rfl | exact Or.inr rfl | assumption) dSp_isEnd_24 (ble rfl) (ble rfl) (pf_i (by rw [if_neg c16]) rfl rfl)
  · refine v_iconst C 1 dSp_isEnd_19 (by decide) ?_
    refine v_goto C 24 dSp_isEnd_20 (by decide) ?_
    exact v_zret C M (by first | exact Or.inl rfl | exact Or.inr rfl | assumption) dSp_isEnd_24 (ble rfl) (ble rfl) (pf_i (by rw [if_pos c16]) rfl rfl)
def wsum (ret : Int32) (K : Nat → Int32) (Y : Nat → Int64) : Nat → Int64
  | 0 => 0
  | m + 1 => if isE ret (K m) then wsum ret K Y m + Y m else wsum ret K Y m
theorem c_Sp_waysToEnds (l : Launch) (D : va_G) (g : GM) (I : MI) (J : MJ) {s n : Nat} (hS : SpAt g s) (hn : I (s + 1) 4 = nI n) (hn2 : n ≤ 2000) : Ct l ySp_waysToEnds bSp_waysToEnds 4 (some .long) (rmN 1 21) D [.ref s] g I J (PF (some (.long (wsum (I s 6) (I (s + 1 + 1)) (J (s + 7)) n))) g I J) := by
  refine Ct.of (by decide) (ble rfl) [some (.ref s), none, none, none] rfl ?_
  intro x C M
  obtain ⟨s0, ⟨t0, t1, t2, t3, t4, r0, r1, r2, r3⟩, s6, s7, s8, sr0, sr1, sr2, sr3⟩ := id hS
  refine v_lconst C 0 dSp_waysToEnds_0 (by decide) ?_
  refine v_lstore_n C 1 dSp_waysToEnds_1 rfl (ble rfl) rfl ?_
  refine v_iconst C 0 dSp_waysToEnds_2 (by decide) ?_
  refine v_istore_n C 3 dSp_waysToEnds_3 rfl (ble rfl) rfl ?_
  have loop : ∀ (m i : Nat) (sum : Int64), i + m = n → sum = wsum (I s 6) (I (s + 1 + 1)) (J (s + 7)) i → V x g 0 0 I J 4 [some (.ref s), some (.long sum), none, some (.int (nI i))] [] := by
    intro m
    induction m with
    | zero =>
      intro i sum h1 h2
      refine v_iload_n C 3 dSp_waysToEnds_4 rfl rfl ?_
      refine v_aload_n C 0 dSp_waysToEnds_5 rfl rfl ?_
      refine v_getr C cfSp (k := 0) (by assumption) rfl (by assumption) w79 dSp_waysToEnds_6 ?_
      refine v_geti C cfTa (k := 4) (by assumption) rfl w44 dSp_waysToEnds_9 ?_
      rw [hn]
      refine v_icmp_ge C 38 dSp_waysToEnds_12 (by decide) (fun _ => ?_) (fun h => absurd (nI_le (by omega) (by omega)) h)
      refine v_lload_n C 1 dSp_waysToEnds_38 rfl rfl ?_
      have h3 : i = n := by omega
      exact v_lret C M dSp_waysToEnds_39 (ble rfl) (ble rfl) (pf_l (by rw [h2, h3]) rfl rfl)
    | succ m ih =>
      intro i sum h1 h2
      have hi : i < 2000 := by omega
      have hic : (nI i).toNatClampNeg = i := nI_clamp (by omega)
      have hii : vp_in (nI i) 2000 := vp_in_nI hi (by decide)
      refine v_iload_n C 3 dSp_waysToEnds_4 rfl rfl ?_
      refine v_aload_n C 0 dSp_waysToEnds_5 rfl rfl ?_
      refine v_getr C cfSp (k := 0) (by assumption) rfl (by assumption) w79 dSp_waysToEnds_6 ?_
      refine v_geti C cfTa (k := 4) (by assumption) rfl w44 dSp_waysToEnds_9 ?_
      rw [hn]
      refine v_icmp_ge C 38 dSp_waysToEnds_12 (by decide) (fun h => absurd h (nI_ge (by omega) (by omega))) (fun _ => ?_)
      refine v_aload_n C 0 dSp_waysToEnds_15 rfl rfl ?_
      refine v_iload_n C 3 dSp_waysToEnds_16 rfl rfl ?_
      refine v_cVi C (c_Sp_isEnd (kl x) (kD x) g I J hS hi) mwSp_isEnd cfSp (by assumption) w321 w322 w320 rfl rfl (ble rfl) (ble rfl) (ble rfl) (ble rfl) (ble rfl) dSp_waysToEnds_17 ?_
      by_cases hE : isE (I s 6) (I (s + 1 + 1) i)
      · rw [if_pos hE]
        refine v_if_eq C 32 dSp_waysToEnds_20 (by decide) (fun h => absurd h (by decide)) (fun _ => ?_)
        refine v_lload_n C 1 dSp_waysToEnds_23 rfl rfl ?_
        refine v_aload_n C 0 dSp_waysToEnds_24 rfl rfl ?_
        refine v_getr C cfSp (k := 2) (by assumption) rfl (by assumption) w83 dSp_waysToEnds_25 ?_
        refine v_iload_n C 3 dSp_waysToEnds_28 rfl rfl ?_
        refine v_lald C (by assumption) (by assumption) dSp_waysToEnds_29 ?_
        rw [hic]
        refine v_ladd C dSp_waysToEnds_30 ?_
        refine v_lstore_n C 1 dSp_waysToEnds_31 rfl (ble rfl) rfl ?_
        refine v_iinc C (nI (i + 1)) dSp_waysToEnds_32 rfl (nI_1 i) (ble rfl) rfl ?_
        refine v_goto C 4 dSp_waysToEnds_35 (by decide) ?_
        exact ih (i + 1) _ (by omega) (by rw [h2]; show _ = (if _ then _ else _); rw [if_pos hE])
      · rw [if_neg hE]
        refine v_if_eq C 32 dSp_waysToEnds_20 (by decide) (fun _ => ?_) (fun h => absurd rfl h)
        refine v_iinc C (nI (i + 1)) dSp_waysToEnds_32 rfl (nI_1 i) (ble rfl) rfl ?_
        refine v_goto C 4 dSp_waysToEnds_35 (by decide) ?_
        exact ih (i + 1) _ (by omega) (by rw [h2]; show _ = (if _ then _ else _); rw [if_neg hE])
  exact loop n 0 0 (by omega) rfl
end
section
/-! a possibility's key: the done ones' bits, and the state's size above them -/
theorem nx_or (a b : Nat) : nI a ||| nI b = nI (a ||| b) := Int32.toBitVec_inj.mp (by
  rw [Int32.toBitVec_or]
  show BitVec.ofNat 32 a ||| BitVec.ofNat 32 b = BitVec.ofNat 32 (a ||| b)
  exact BitVec.ofNat_or.symm)
def KeyOK (key : Int32) (m sz : Nat) : Prop := key = nI (m + 65536 * sz) ∧ m < 65536 ∧ sz ≤ 16
theorem KeyOK.done {key : Int32} {m sz : Nat} (h : KeyOK key m sz) : key &&& 65535 = nI m := by
  obtain ⟨rfl, h1, h2⟩ := h
  rw [nx_mod]
  congr 1
  omega
theorem KeyOK.size {key : Int32} {m sz : Nat} (h : KeyOK key m sz) : jiu key 16 = nI sz := by
  obtain ⟨rfl, h1, h2⟩ := h
  have e : jiu (nI (m + 65536 * sz)) 16 = nI ((m + 65536 * sz) / 2 ^ 16) := pk_ushrN (by omega) 16 16 (by decide)
  rw [e]
  congr 1
  omega
theorem jbit {m p : Nat} (hm : m < 65536) (hp : p < 16) : (jiu (nI m) (nI p) &&& 1) = 0 ↔ m.testBit p = false := nx_bit hm hp
theorem or_lt16 {m p : Nat} (hm : m < 65536) (hp : p < 16) : m ||| 2 ^ p < 65536 := by
  have h1 : 2 ^ p < 2 ^ 16 := Nat.pow_lt_pow_right (by decide) hp
  exact Nat.or_lt_two_pow (n := 16) hm h1
theorem keyB_ok {key : Int32} {m sz sz2 p : Nat} (h : KeyOK key m sz) (hp : p < 16) (hz : sz2 ≤ 16) : KeyOK (keyB key p (nI sz2)) (m ||| 2 ^ p) sz2 := by
  have h1 : 2 ^ p < 2 ^ 16 := Nat.pow_lt_pow_right (by decide) hp
  have hor := or_lt16 h.2.1 hp
  refine ⟨?_, hor, hz⟩
  unfold keyB
  have e1 : jish 1 (nI p) = nI (1 * 2 ^ p) := pk_shlN (n := 1) (nI p &&& 31) p (s_l p (by omega)) (by omega)
  have e2 : jish (nI sz2) 16 = nI (sz2 * 2 ^ 16) := pk_shlN (n := sz2) (16 &&& 31) 16 (by decide) (by omega)
  rw [h.done, e1, e2, nx_or, nx_or, Nat.one_mul, Nat.or_comm]
  congr 1
  rw [← Nat.shiftLeft_eq, ← Nat.shiftLeft_add_eq_or_of_lt (i := 16) hor, Nat.shiftLeft_eq]
  omega
/-- how many bits below k -/
def pcn (m : Nat) : Nat → Nat
  | 0 => 0
  | k + 1 => pcn m k + (if m.testBit k = true then 1 else 0)
theorem pcn_le (m : Nat) : ∀ k : Nat, pcn m k ≤ k
  | 0 => Nat.le_refl _
  | k + 1 => by
    have := pcn_le m k
    simp only [pcn]
    split <;> omega
theorem pcn_or {m p : Nat} (hb : m.testBit p = false) : ∀ k : Nat, pcn (m ||| 2 ^ p) k = pcn m k + (if p < k then 1 else 0)
  | 0 => by simp [pcn]
  | k + 1 => by
    simp only [pcn]
    rw [pcn_or hb k, Nat.testBit_or, Nat.testBit_two_pow]
    by_cases h : p = k
    · subst h
      simp [hb]
    · have h2 : (p < k + 1) ↔ p < k := by omega
      simp only [h, decide_false, Bool.or_false, h2]
      omega
theorem pcn16 {m p : Nat} (hp : p < 16) (hb : m.testBit p = false) : pcn (m ||| 2 ^ p) 16 = pcn m 16 + 1 := by
  rw [pcn_or hb, if_pos hp]
/-- a key that can come: its size is no more than the bits -/
def KeyG (key : Int32) (m sz : Nat) : Prop := KeyOK key m sz ∧ sz ≤ pcn m 16
theorem chg_size {kind code a b nm : Int32} {av bv : Nat → Int32} {w : Int64} {k : Nat} (hk : k ≤ 16) : ∃ k2, (chg kind code a b nm av bv w (nI k)).2.1 = nI k2 ∧ k2 ≤ k + 1 := by
  unfold chg
  split
  · exact ⟨k, rfl, by omega⟩
  split
  · exact ⟨k, rfl, by omega⟩
  split
  · exact ⟨k, rfl, by omega⟩
  unfold chSeq
  split
  · exact ⟨k + 1, nI_1 k, by omega⟩
  split
  · split
    · rename_i h
      have h0 : 0 < k := by
        rcases Nat.eq_zero_or_pos k with e | e
        · rw [e] at h
          exact absurd h (by decide)
        · exact e
      refine ⟨k - 1, ?_, by omega⟩
      show nI k - 1 = nI (k - 1)
      obtain ⟨j, rfl⟩ : ∃ j, k = j + 1 := ⟨k - 1, by omega⟩
      exact nI_pred j
    · exact ⟨k, rfl, by omega⟩
  · exact ⟨k, rfl, by omega⟩
theorem stp_some {E : Nat → Nat → Int32} {kind ret own key : Int32} {w : Int64} {p : Nat} {c : Int64 × Int32 × Int32} (h : stp E kind ret own key w p = some c) : ¬ barred E own key p ∧ suits E ret p c.2.2 ∧ c = chgE E kind p w (jiu key 16) := by
  unfold stp at h
  split at h
  · cases h
  · split at h
    · cases h
      rename_i h1 h2
      exact ⟨h1, h2, rfl⟩
    · cases h
theorem stp_key {E : Nat → Nat → Int32} {kind ret own key : Int32} {w : Int64} {p m sz : Nat} {c : Int64 × Int32 × Int32} (hp : p < 16) (hg : KeyG key m sz) (h : stp E kind ret own key w p = some c) : ∃ sz2, c.2.1 = nI sz2 ∧ m.testBit p = false ∧ KeyG (keyB key p c.2.1) (m ||| 2 ^ p) sz2 := by
  obtain ⟨h1, h2, h3⟩ := stp_some h
  obtain ⟨hk, hs⟩ := hg
  have hb : m.testBit p = false := by
    by_cases hb : m.testBit p = false
    · exact hb
    · exfalso
      apply h1
      left
      rw [hk.done]
      intro e
      exact hb ((jbit hk.2.1 hp).mp e)
  have hpc := pcn16 hp hb
  have hle := pcn_le (m ||| 2 ^ p) 16
  rw [hk.size] at h3
  obtain ⟨k2, e1, e2⟩ := chg_size (kind := kind) (code := E p 1) (a := E p 2) (b := E p 3) (nm := E p 4) (av := fun i => E i 2) (bv := fun i => E i 3) (w := w) hk.2.2
  have e3 : c.2.1 = nI k2 := by rw [h3]; exact e1
  refine ⟨k2, e3, hb, ?_, by omega⟩
  rw [e3]
  exact keyB_ok hk hp (by omega)
/-! the walk of all possibilities: how many, keys, words, ways -/
abbrev XS : Type := Nat × (Nat → Int32) × (Nat → Int64) × (Nat → Int64)
def upF {α : Type} (f : Nat → α) (k : Nat) (v : α) : Nat → α := fun j => if j = k then v else f j
def xadd (X : XS) (f : Nat) (key : Int32) (w : Int64) : Option XS :=
  if lk X.2.1 X.2.2.1 key w X.1 = -1 then (if X.1 < 2000 then some (X.1 + 1, upF X.2.1 X.1 key, upF X.2.2.1 X.1 w, upF X.2.2.2 X.1 (X.2.2.2 f)) else none)
  else some (X.1, X.2.1, X.2.2.1, upF X.2.2.2 (ix (lk X.2.1 X.2.2.1 key w X.1)) (X.2.2.2 (ix (lk X.2.1 X.2.2.1 key w X.1)) + X.2.2.2 f))
def xpl (E : Nat → Nat → Int32) (kind ret own : Int32) (f p : Nat) (X : XS) : Option XS := match stp E kind ret own (X.2.1 f) (X.2.2.1 f) p with
  | none => some X
  | some c => xadd X f (keyB (X.2.1 f) p c.2.1) c.1
def xpls (E : Nat → Nat → Int32) (kind ret own : Int32) (f : Nat) : Nat → Nat → XS → Option XS
  | 0, _, X => some X
  | m + 1, p, X => match xpl E kind ret own f p X with
    | none => none
    | some X2 => xpls E kind ret own f m (p + 1) X2
def xfs (E : Nat → Nat → Int32) (kind ret own : Int32) (cnt : Nat) : Nat → Nat → XS → Option XS
  | 0, _, X => some X
  | m + 1, f, X => if f < X.1 then (match xpls E kind ret own f cnt 0 X with
    | none => none
    | some X2 => xfs E kind ret own cnt m (f + 1) X2) else some X
def X0 : XS := (1, fun _ => 0, fun _ => 0, fun _ => 1)
def xrun (E : Nat → Nat → Int32) (kind ret own : Int32) (cnt : Nat) : Option XS := xfs E kind ret own cnt 2000 0 X0
/-- all keys are such as can come -/
def KInv (X : XS) : Prop := X.1 ≤ 2000 ∧ ∀ i, i < X.1 → ∃ m sz, KeyG (X.2.1 i) m sz
theorem xadd_inv {X X2 : XS} {f : Nat} {key : Int32} {w : Int64} {m sz : Nat} (h : KInv X) (hk : KeyG key m sz) (e : xadd X f key w = some X2) : KInv X2 ∧ X.1 ≤ X2.1 := by
  unfold xadd at e
  split at e
  · split at e
    · cases e
      rename_i h9
      refine ⟨⟨h9, fun i hi => ?_⟩, Nat.le_succ _⟩
      by_cases hq : i = X.1
      · refine ⟨m, sz, ?_⟩
        show KeyG (upF X.2.1 X.1 key i) m sz
        unfold upF
        rw [if_pos hq]
        exact hk
      · have hi2 : i < X.1 + 1 := hi
        obtain ⟨m2, s3, h3⟩ := h.2 i (by omega)
        refine ⟨m2, s3, ?_⟩
        show KeyG (upF X.2.1 X.1 key i) m2 s3
        unfold upF
        rw [if_neg hq]
        exact h3
    · cases e
  · cases e
    exact ⟨h, Nat.le_refl _⟩
theorem xpl_inv {E : Nat → Nat → Int32} {kind ret own : Int32} {f p : Nat} {X X2 : XS} (h : KInv X) (hf : f < X.1) (hp : p < 16) (e : xpl E kind ret own f p X = some X2) : KInv X2 ∧ X.1 ≤ X2.1 := by
  unfold xpl at e
  split at e
  · cases e
    exact ⟨h, Nat.le_refl _⟩
  · rename_i c hc
    obtain ⟨m, sz, hg⟩ := h.2 f hf
    obtain ⟨s3, -, -, h3⟩ := stp_key hp hg hc
    exact xadd_inv h h3 e
end
section
/-- what is known of the locals is known -/
def lsub : List (Option Value) → List (Option Value) → Prop
  | [], _ => True
  | none :: a, _ :: b => lsub a b
  | some v :: a, w :: b => w = some v ∧ lsub a b
  | _ :: _, [] => False
theorem lsub_at : ∀ (a b : List (Option Value)), lsub a b → ∀ (i : Nat) (v : Value), a[i]? = some (some v) → b[i]? = some (some v)
  | [], _, _, i, v, h => by simp at h
  | none :: a, [], h, _, _, _ => h.elim
  | some _ :: a, [], h, _, _, _ => h.elim
  | none :: a, w :: b, h, 0, v, e => by simp at e
  | none :: a, w :: b, h, i + 1, v, e => by
    have h : lsub a b := h
    simpa using lsub_at a b h i v (by simpa using e)
  | some y :: a, w :: b, h, 0, v, e => by
    have h : w = some y ∧ lsub a b := h
    have e2 : y = v := by simpa using e
    rw [h.1, e2]
    rfl
  | some y :: a, w :: b, h, i + 1, v, e => by
    have h : w = some y ∧ lsub a b := h
    simpa using lsub_at a b h.2 i v (by simpa using e)
theorem V.drop {x : KX} {g : GM} {cells slots : Nat} {I : MI} {J : MJ} {pc : Nat} {lv lv2 : List (Option Value)} {st : List Value} (k : V x g cells slots I J pc lv2 st) (h : lsub lv2 lv) : V x g cells slots I J pc lv st := k.less (lsub_at lv2 lv h)
def offB (s n : Nat) (I : MI) (J : MJ) (I2 : MI) (J2 : MJ) : Prop := (∀ b, b < s ∨ s + n ≤ b → I2 b = I b) ∧ ∀ b, b < s ∨ s + n ≤ b → J2 b = J b
theorem sp_out {g : GM} {s a c n : Nat} (hS : SpAt g s) (ha : g.1 a = (c, n)) (hc : c = 0 ∨ c = 3 ∨ c = 5 ∨ c = 6 ∨ c = 13 ∨ c = 14) : a < s ∨ s + 9 ≤ a := by
  obtain ⟨s0, ⟨t0, t1, t2, t3, t4, -⟩, s6, s7, s8, -⟩ := hS
  rcases Nat.lt_or_ge a s with h | h
  · exact Or.inl h
  rcases Nat.lt_or_ge a (s + 9) with h9 | h9
  · exfalso
    have hk : a = s ∨ a = s + 1 ∨ a = s + 1 + 1 ∨ a = s + 1 + 2 ∨ a = s + 1 + 3 ∨ a = s + 1 + 4 ∨ a = s + 6 ∨ a = s + 7 ∨ a = s + 8 := by omega
    rcases hk with e | e | e | e | e | e | e | e | e <;> subst e
    · exact sh_ne ha s0 (by omega) rfl
    · exact sh_ne ha t0 (by omega) rfl
    · exact sh_ne ha t1 (by omega) rfl
    · exact sh_ne ha t2 (by omega) rfl
    · exact sh_ne ha t3 (by omega) rfl
    · exact sh_ne ha t4 (by omega) rfl
    · exact sh_ne ha s6 (by omega) rfl
    · exact sh_ne ha s7 (by omega) rfl
    · exact sh_ne ha s8 (by omega) rfl
  · exact Or.inr h9
theorem stp_congr {E E2 : Nat → Nat → Int32} {kind ret own key : Int32} {w : Int64} {p : Nat} (hp : p < 16) (h : ∀ i k, i < 16 → E2 i k = E i k) : stp E2 kind ret own key w p = stp E kind ret own key w p := by
  have e : chgE E2 kind p w (jiu key 16) = chgE E kind p w (jiu key 16) := by
    unfold chgE
    rw [h p 1 hp, h p 2 hp, h p 3 hp, h p 4 hp]
    exact chg_congr (fun i hi => h i 2 hi) (fun i hi => h i 3 hi)
  unfold stp barred suits
  rw [e, h p 5 hp, h p 6 hp, h p 7 hp]
def XIs (I : MI) (J : MJ) (s : Nat) (X : XS) : Prop := TabOK I J (s + 1) X.1 ∧ ∀ i, i < X.1 → I (s + 1 + 1) i = X.2.1 i ∧ J (s + 1 + 2) i = X.2.2.1 i ∧ J (s + 7) i = X.2.2.2 i
theorem XIs.offA {I I2 : MI} {J J2 : MJ} {s : Nat} {X : XS} (h : XIs I J s X) (ho : offA (s + 6) I J I2 J2) : XIs I2 J2 s X := by
  refine ⟨h.1.off (fun b h1 h2 => ho.1 b (by omega)) (ho.2 _ (by omega)), ?_⟩
  rw [ho.1 (s + 1 + 1) (by omega), ho.2 (s + 1 + 2) (by omega), ho.2 (s + 7) (by omega)]
  exact h.2
def XM (I : MI) (J : MJ) (s cnt : Nat) (ret own : Int32) (X : XS) (Ic : MI) (Jc : MJ) : Prop := XIs Ic Jc s X ∧ KInv X ∧ Ic s 4 = 0 ∧ Ic s 5 = nI cnt ∧ Ic s 6 = ret ∧ Ic s 7 = own ∧ offB s 9 I J Ic Jc
def expQ (g : GM) (I : MI) (J : MJ) (s u cnt : Nat) (ret own : Int32) : Option Value → GM → MI → MJ → Prop := fun v g2 I2 J2 => g2 = g ∧ (xrun (opE I u) (I u 5) ret own cnt = none ∧ v = some (.int 0) ∧ offB s 9 I J I2 J2 ∨ ∃ X, xrun (opE I u) (I u 5) ret own cnt = some X ∧ v = some (.int 1) ∧ XM I J s cnt ret own X I2 J2)
theorem lk_mem {I : MI} {J : MJ} {s : Nat} {X : XS} (h : XIs I J s X) (key : Int32) (w : Int64) : lk (I (s + 1 + 1)) (J (s + 1 + 2)) key w X.1 = lk X.2.1 X.2.2.1 key w X.1 := lk_congr X.1 (fun i hi => ⟨(h.2 i hi).1, (h.2 i hi).2.1⟩)
/-- the memory behind a possibility that came -/
theorem xadd_new {I Ic I5 : MI} {J Jc J5 : MJ} {s cnt f : Nat} {ret own key : Int32} {w : Int64} {X : XS} {m sz : Nat} (h : XM I J s cnt ret own X Ic Jc) (hf : f < X.1) (hk : KeyG key m sz) (hn : lk X.2.1 X.2.2.1 key w X.1 = -1) (hlt : X.1 < 2000) (hR : keepR Ic Jc (s + 1) X.1 key w I5 J5) : xadd X f key w = some (X.1 + 1, upF X.2.1 X.1 key, upF X.2.2.1 X.1 w, upF X.2.2.2 X.1 (X.2.2.2 f)) ∧ XM I J s cnt ret own (X.1 + 1, upF X.2.1 X.1 key, upF X.2.2.1 X.1 w, upF X.2.2.2 X.1 (X.2.2.2 f)) I5 (s2 J5 (s + 7) X.1 (J5 (s + 7) f)) := by
  obtain ⟨hX, hK, h4, h5, h6, h7, ho⟩ := h
  obtain ⟨r1, r2, r3, r4, r5, r6, r7⟩ := hR
  have e : xadd X f key w = some (X.1 + 1, upF X.2.1 X.1 key, upF X.2.2.1 X.1 w, upF X.2.2.2 X.1 (X.2.2.2 f)) := by
    unfold xadd
    rw [if_pos hn, if_pos hlt]
  refine ⟨e, ⟨?_, ?_⟩, (xadd_inv hK hk e).1, ?_, ?_, ?_, ?_, ?_, ?_⟩
  · exact r1.off (fun _ _ _ => rfl) (s2_off (by omega))
  · intro i hi
    have hi : i < X.1 + 1 := hi
    rw [s2_a (show s + 1 + 2 ≠ s + 7 by omega), s2_row]
    show _ = upF X.2.1 X.1 key i ∧ _ = upF X.2.2.1 X.1 w i ∧ _ = upF X.2.2.2 X.1 (X.2.2.2 f) i
    unfold upF
    have e7 : J5 (s + 7) = Jc (s + 7) := r7 _ (by omega)
    by_cases hq : i = X.1
    · subst hq
      refine ⟨by rw [if_pos rfl]; exact r2, by rw [if_pos rfl]; exact r3, ?_⟩
      show (if _ then _ else _) = _
      rw [if_pos rfl, if_pos rfl, e7]
      exact (hX.2 f hf).2.2
    · have h9 := hX.2 i (by omega)
      refine ⟨by rw [if_neg hq, r4 i hq]; exact h9.1, by rw [if_neg hq, r5 i hq]; exact h9.2.1, ?_⟩
      show (if _ then _ else _) = _
      rw [if_neg hq, if_neg hq, e7]
      exact h9.2.2
  · rw [r6 s (by omega)]; exact h4
  · rw [r6 s (by omega)]; exact h5
  · rw [r6 s (by omega)]; exact h6
  · rw [r6 s (by omega)]; exact h7
  · exact fun b hb => by rw [r6 b (by omega)]; exact ho.1 b hb
  · exact fun b hb => by rw [s2_off (by omega), r7 b (by omega)]; exact ho.2 b hb
/-- .. that was known -/
theorem xadd_old {I Ic : MI} {J Jc : MJ} {s cnt f i : Nat} {ret own key : Int32} {w : Int64} {X : XS} (h : XM I J s cnt ret own X Ic Jc) (hf : f < X.1) (hi : i < X.1) (hn : lk X.2.1 X.2.2.1 key w X.1 = nI i) : xadd X f key w = some (X.1, X.2.1, X.2.2.1, upF X.2.2.2 i (X.2.2.2 i + X.2.2.2 f)) ∧ XM I J s cnt ret own (X.1, X.2.1, X.2.2.1, upF X.2.2.2 i (X.2.2.2 i + X.2.2.2 f)) Ic (s2 Jc (s + 7) i (Jc (s + 7) i + Jc (s + 7) f)) := by
  obtain ⟨hX, hK, h4, h5, h6, h7, ho⟩ := h
  have hb := hK.1
  have hne : ¬ nI i = -1 := fun e => by
    have h0 := nI_pos (n := i) (by omega)
    rw [e] at h0
    exact h0 (by decide)
  refine ⟨?_, ⟨hX.1.off (fun _ _ _ => rfl) (s2_off (by omega)), ?_⟩, ⟨hK.1, hK.2⟩, h4, h5, h6, h7, ho.1, ?_⟩
  · unfold xadd
    rw [hn, if_neg hne]
    have e : ix (nI i) = i := nI_clamp (by omega)
    rw [e]
  · intro j hj
    have h9 := hX.2 j hj
    refine ⟨h9.1, by rw [s2_a (by omega)]; exact h9.2.1, ?_⟩
    rw [s2_row]
    show (if _ then _ else _) = upF X.2.2.2 i _ j
    unfold upF
    by_cases hq : j = i
    · rw [if_pos hq, if_pos hq, (hX.2 i hi).2.2, (hX.2 f hf).2.2]
    · rw [if_neg hq, if_neg hq]
      exact h9.2.2
  · exact fun b hb => by rw [s2_off (by omega)]; exact ho.2 b hb
end
section
set_option maxHeartbeats 4000000 in
theorem c_Sp_explore (l : Launch) (D : va_G) (g : GM) (I : MI) (J : MJ) {s u cnt : Nat} (ret own : Int32) (hS : SpAt g s) (hU : SuAt g u) (hcnt : cnt ≤ 16) (how : own = 0 ∨ own = 1) : Ct l ySp_explore bSp_explore 9 (some .boolean) (rmN 4 100) D [.ref s, .ref u, .int (nI cnt), .int ret, .int own] g I J (expQ g I J s u cnt ret own) := by
  refine Ct.of (by decide) (ble rfl) [some (.ref s), some (.ref u), some (.int (nI cnt)), some (.int ret), some (.int own), none, none, none, none] rfl ?_
  intro x C M
  obtain ⟨s0, hT, s6, s7, s8, sr0, sr1, sr2, sr3⟩ := id hS
  have t0 := hT.1
  obtain ⟨u0, hO, -⟩ := id hU
  have hnw : narrow .boolean (.int own) = .int own := by rcases how with rfl | rfl <;> rfl
  have hft : fits .boolean (.int own) = true := by rcases how with rfl | rfl <;> rfl
  have ou := sp_out hS u0 (by decide)
  have oo : ∀ i, i < 16 → u + 14 + i < s ∨ s + 9 ≤ u + 14 + i := fun i hi => sp_out hS (hO.2 i hi).2 (by decide)
  refine v_aload_n C 0 dSp_explore_0 rfl rfl ?_
  refine v_iload_n C 2 dSp_explore_1 rfl rfl ?_
  refine v_puti C cfSp (k := 5) (by assumption) rfl w87 rfl rfl rfl dSp_explore_2 ?_
  refine v_aload_n C 0 dSp_explore_5 rfl rfl ?_
  refine v_iload_n C 3 dSp_explore_6 rfl rfl ?_
  refine v_puti C cfSp (k := 6) (by assumption) rfl w88 rfl rfl rfl dSp_explore_7 ?_
  refine v_aload_n C 0 dSp_explore_10 rfl rfl ?_
  refine v_iload C dSp_explore_11 rfl ?_
  refine v_puti C cfSp (k := 7) (by assumption) rfl w89 rfl (by first | rfl | assumption) (by first | rfl | assumption) dSp_explore_13 ?_
  refine v_aload_n C 0 dSp_explore_16 rfl rfl ?_
  refine v_iconst C 0 dSp_explore_17 (by decide) ?_
  refine v_puti C cfSp (k := 4) (by assumption) rfl w86 rfl (by first | rfl | assumption) (by first | rfl | assumption) dSp_explore_18 ?_
  refine v_aload_n C 0 dSp_explore_21 rfl rfl ?_
  refine v_getr C cfSp (k := 0) (by assumption) rfl (by assumption) w79 dSp_explore_22 ?_
  generalize eI : s2 (s2 (s2 (s2 I s 5 (nI cnt)) s 6 ret) s 7 own) s 4 0 = I1
  have q4 : I1 s 4 = 0 := by rw [← eI, s2_self]
  have q7 : I1 s 7 = own := by rw [← eI, s2_k (by decide), s2_self]
  have q6 : I1 s 6 = ret := by rw [← eI, s2_k (by decide), s2_k (by decide), s2_self]
  have q5 : I1 s 5 = nI cnt := by rw [← eI, s2_k (by decide), s2_k (by decide), s2_k (by decide), s2_self]
  have qo : ∀ b, b ≠ s → I1 b = I b := fun b hb => by rw [← eI, s2_off hb, s2_off hb, s2_off hb, s2_off hb]
  refine v_callV C (c_Ta_makeEmpty (kl x) (kD x) g I1 J hT) mwTa_makeEmpty cfTa (by assumption) w250 w251 w249 rfl rfl (ble rfl) (ble rfl) (ble rfl) (ble rfl) (ble rfl) dSp_explore_25 ?_
  rintro v g2 I2 J2 ⟨rfl, rfl, rfl, m1, m2⟩
  refine v_aload_n C 0 dSp_explore_28 rfl rfl ?_
  refine v_getr C cfSp (k := 0) (by assumption) rfl (by assumption) w79 dSp_explore_29 ?_
  refine v_iconst C 0 dSp_explore_32 (by decide) ?_
  refine v_lconst C 0 dSp_explore_33 (by decide) ?_
  refine v_callV C (c_Ta_keep (kl x) (kD x) g2 I2 J2 0 0 hT m1) mwTa_keep cfTa (by assumption) w255 w256 w254 rfl rfl (ble rfl) (ble rfl) (ble rfl) (ble rfl) (ble rfl) dSp_explore_34 ?_
  rintro v g3 I3 J3 ⟨rfl, hk⟩
  rcases hk with ⟨h1, -⟩ | ⟨-, -, rfl, r1, r2, r3, r4, r5, r6, r7⟩
  · rcases h1 with h1 | h1
    · exact absurd rfl h1
    · exact absurd h1 (by decide)
  refine v_pop C dSp_explore_37 rfl ?_
  refine v_aload_n C 0 dSp_explore_38 rfl rfl ?_
  refine v_getr C cfSp (k := 2) (by assumption) rfl (by assumption) w83 dSp_explore_39 ?_
  refine v_iconst C 0 dSp_explore_42 (by decide) ?_
  refine v_lconst C 1 dSp_explore_43 (by decide) ?_
  have hv0 : vp_in 0 2000 := vp_in_nI (n := 0) (N := 2000) (by decide) (by decide)
  refine v_last C (by assumption) (by assumption) dSp_explore_44 ?_
  refine v_iconst C 0 dSp_explore_45 (by decide) ?_
  refine v_istore C dSp_explore_46 (ble rfl) rfl ?_
  have base : XM I J2 s cnt ret own X0 I3 (s2 J3 (s + 7) (ix 0) 1) := by
    refine ⟨⟨r1.off (fun _ _ _ => rfl) (s2_off (by omega)), fun i hi => ?_⟩, ⟨by decide, fun i hi => ?_⟩, ?_, ?_, ?_, ?_, fun b hb => ?_, fun b hb => ?_⟩
    · have h0 : i = 0 := by
        have hi : i < 1 := hi
        omega
      subst h0
      refine ⟨r2, by rw [s2_a (by omega)]; exact r3, ?_⟩
      exact s2_self _ _ _ _
    · exact ⟨0, 0, ⟨⟨rfl, by decide, by decide⟩, Nat.zero_le _⟩⟩
    · rw [r6 s (by omega), m2 s (by omega)]; exact q4
    · rw [r6 s (by omega), m2 s (by omega)]; exact q5
    · rw [r6 s (by omega), m2 s (by omega)]; exact q6
    · rw [r6 s (by omega), m2 s (by omega)]; exact q7
    · rw [r6 b (by omega), m2 b (by omega)]; exact qo b (by omega)
    · rw [s2_off (by omega), r7 b (by omega)]
  -- the loops
  have inner : ∀ (m p f : Nat) (X : XS) (Ic : MI) (Jc : MJ), p + m = cnt → f < X.1 → XM I J2 s cnt ret own X Ic Jc → (∀ X2 I5 J5, xpls (opE I u) (I u 5) ret own f m p X = some X2 → XM I J2 s cnt ret own X2 I5 J5 → V x g3 0 0 I5 J5 181 [some (.ref s), some (.ref u), some (.int (nI cnt)), some (.int ret), some (.int own), some (.int (nI f)), none, none, none] []) → (xpls (opE I u) (I u 5) ret own f m p X = none → xrun (opE I u) (I u 5) ret own cnt = none) → V x g3 0 0 Ic Jc 71 [some (.ref s), some (.ref u), some (.int (nI cnt)), some (.int ret), some (.int own), some (.int (nI f)), some (.int (nI p)), none, none] [] := by
    intro m
    induction m with
    | zero =>
      intro p f X Ic Jc h1 hf hX hk hno
      refine v_iload C dSp_explore_71 rfl ?_
      refine v_aload_n C 0 dSp_explore_73 rfl rfl ?_
      refine v_geti C cfSp (k := 5) (by assumption) rfl w87 dSp_explore_74 ?_
      rw [hX.2.2.2.1]
      refine v_icmp_ge C 181 dSp_explore_77 (by decide) (fun _ => ?_) (fun h => absurd (nI_le (by omega) (by omega)) h)
      exact (hk X Ic Jc rfl hX).drop ⟨rfl, rfl, rfl, rfl, rfl, rfl, trivial⟩
    | succ m ih =>
      intro p f X Ic Jc h1 hf hX hk hno
      have hp : p < 16 := by omega
      have hb := hX.2.1.1
      have hf2 : f < 2000 := by omega
      have hfc : (nI f).toNatClampNeg = f := nI_clamp (by omega)
      have hfi : vp_in (nI f) 2000 := vp_in_nI hf2 (by decide)
      refine v_iload C dSp_explore_71 rfl ?_
      refine v_aload_n C 0 dSp_explore_73 rfl rfl ?_
      refine v_geti C cfSp (k := 5) (by assumption) rfl w87 dSp_explore_74 ?_
      rw [hX.2.2.2.1]
      refine v_icmp_ge C 181 dSp_explore_77 (by decide) (fun h => absurd h (nI_ge (by omega) (by omega))) (fun _ => ?_)
      obtain ⟨km9, ksz, kg⟩ := hX.2.1.2 f hf
      have ek := (hX.1.2 f hf).1
      have ew := (hX.1.2 f hf).2.1
      have estp : stp (opE Ic u) (Ic u 5) (Ic s 6) (Ic s 7) (Ic (s + 1 + 1) f) (Jc (s + 1 + 2) f) p = stp (opE I u) (I u 5) ret own (X.2.1 f) (X.2.2.1 f) p := by
        rw [ek, ew, hX.2.2.2.2.1, hX.2.2.2.2.2.1, hX.2.2.2.2.2.2.1 u ou]
        exact stp_congr hp (fun i k hi => by show Ic _ _ = I _ _; rw [hX.2.2.2.2.2.2.1 _ (oo i hi)])
      have goOn : ∀ (X2 : XS) (I5 : MI) (J5 : MJ) (z7 z8 : Option Value), xpl (opE I u) (I u 5) ret own f p X = some X2 → XM I J2 s cnt ret own X2 I5 J5 → V x g3 0 0 I5 J5 175 [some (.ref s), some (.ref u), some (.int (nI cnt)), some (.int ret), some (.int own), some (.int (nI f)), some (.int (nI p)), z7, z8] [] := by
        intro X2 I5 J5 z7 z8 e1 hX2
        refine v_iinc C (nI (p + 1)) dSp_explore_175 rfl (nI_1 p) (ble rfl) rfl ?_
        refine v_goto C 71 dSp_explore_178 (by decide) ?_
        have hle := (xpl_inv hX.2.1 hf hp e1).2
        refine V.drop (lv2 := [some (.ref s), some (.ref u), some (.int (nI cnt)), some (.int ret), some (.int own), some (.int (nI f)), some (.int (nI (p + 1))), none, none]) ?_ ⟨rfl, rfl, rfl, rfl, rfl, rfl, rfl, trivial⟩
        refine ih (p + 1) f X2 I5 J5 (by omega) (by omega) hX2 (fun X3 I6 J6 e2 h2 => hk X3 I6 J6 ?_ h2) (fun e2 => hno ?_)
        · simp only [xpls, e1]
          exact e2
        · simp only [xpls, e1]
          exact e2
      refine v_aload_n C 0 dSp_explore_80 rfl rfl ?_
      refine v_aload_n C 1 dSp_explore_81 rfl rfl ?_
      refine v_iload C dSp_explore_82 rfl ?_
      refine v_iload C dSp_explore_84 rfl ?_
      refine v_callV C (c_Sp_step (kl x) (kD x) g3 Ic Jc hS hU hf2 hp (by rw [ek]; exact kg.1.size) kg.1.2.2) mwSp_step cfSp (by assumption) w270 ws4 w268 rfl rfl (ble rfl) (ble rfl) (ble rfl) (ble rfl) (ble rfl) dSp_explore_86 ?_
      rintro v g4 I4 J4 ⟨rfl, ho, h⟩
      rw [estp] at h
      have hX4 : XM I J2 s cnt ret own X I4 J4 := ⟨hX.1.offA ho, hX.2.1, by rw [ho.1 s (by omega)]; exact hX.2.2.1, by rw [ho.1 s (by omega)]; exact hX.2.2.2.1, by rw [ho.1 s (by omega)]; exact hX.2.2.2.2.1, by rw [ho.1 s (by omega)]; exact hX.2.2.2.2.2.1, fun b hb => by rw [ho.1 b (by omega)]; exact hX.2.2.2.2.2.2.1 b hb, fun b hb => by rw [ho.2 b (by omega)]; exact hX.2.2.2.2.2.2.2 b hb⟩
      rcases h with ⟨e1, rfl⟩ | ⟨c, e1, rfl, e2, e3, e4⟩
      · refine v_if_ne C 95 dSp_explore_89 (by decide) (fun h => absurd (by decide) h) (fun _ => ?_)
        refine v_goto C 175 dSp_explore_92 (by decide) ?_
        exact goOn X I4 J4 none none (by unfold xpl; rw [e1]) hX4
      · refine v_if_ne C 95 dSp_explore_89 (by decide) (fun _ => ?_) (fun h => absurd h (by decide))
        obtain ⟨sz2, z1, z2, z3⟩ := stp_key hp kg e1
        refine v_aload_n C 0 dSp_explore_95 rfl rfl ?_
        refine v_getr C cfSp (k := 0) (by assumption) rfl (by assumption) w79 dSp_explore_96 ?_
        refine v_geti C cfTa (k := 4) (by assumption) rfl w44 dSp_explore_99 ?_
        rw [hX4.1.1.2.1]
        refine v_istore C dSp_explore_102 (ble rfl) rfl ?_
        refine v_aload_n C 0 dSp_explore_104 rfl rfl ?_
        refine v_getr C cfSp (k := 0) (by assumption) rfl (by assumption) w79 dSp_explore_105 ?_
        refine v_aload_n C 0 dSp_explore_108 rfl rfl ?_
        refine v_iload C dSp_explore_109 rfl ?_
        refine v_iload C dSp_explore_111 rfl ?_
        refine v_cVi C (c_Sp_keyBehind (kl x) (kD x) _ I4 J4 p hS hf2) mwSp_keyBehind cfSp (by assumption) w314 ws12 w312 rfl rfl (ble rfl) (ble rfl) (ble rfl) (ble rfl) (ble rfl) dSp_explore_113 ?_
        rw [e3, (hX4.1.2 f hf).1]
        refine v_aload_n C 0 dSp_explore_116 rfl rfl ?_
        refine v_getr C cfSp (k := 1) (by assumption) rfl (by assumption) w81 dSp_explore_117 ?_
        refine v_getl C cfSt (k := 0) (by assumption) rfl w66 dSp_explore_120 ?_
        rw [e2]
        refine v_callV C (c_Ta_keep (kl x) (kD x) _ I4 J4 _ _ hT hX4.1.1) mwTa_keep cfTa (by assumption) w255 w256 w254 rfl rfl (ble rfl) (ble rfl) (ble rfl) (ble rfl) (ble rfl) dSp_explore_123 ?_
        rintro v g5 I5 J5 ⟨rfl, hq⟩
        rw [lk_mem hX4.1] at hq
        have exl : xpl (opE I u) (I u 5) ret own f p X = xadd X f (keyB (X.2.1 f) p c.2.1) c.1 := by
          unfold xpl
          rw [e1]
        rcases hq with ⟨h1, rfl, rfl, rfl⟩ | ⟨h1, h2, rfl, hR⟩
        · rcases lk_spec X.2.1 X.2.2.1 (keyB (X.2.1 f) p c.2.1) c.1 X.1 with ⟨n1, n2⟩ | ⟨i, n1, n2, n3⟩
          · rw [n1]
            refine v_istore C dSp_explore_126 (ble rfl) rfl ?_
            refine v_iload C dSp_explore_128 rfl ?_
            refine v_iconst C (-1) dSp_explore_130 (by decide) ?_
            refine v_icmp_ne C 136 dSp_explore_131 (by decide) (fun h => absurd rfl h) (fun _ => ?_)
            refine v_iconst C 0 dSp_explore_134 (by decide) ?_
            have hnone : xpls (opE I u) (I u 5) ret own f (m + 1) p X = none := by
              have e5 : xadd X f (keyB (X.2.1 f) p c.2.1) c.1 = none := by
                unfold xadd
                rw [if_pos n1, if_neg]
                rcases h1 with h1 | h1
                · exact absurd n1 h1
                · omega
              simp only [xpls, exl, e5]
            exact v_zret C M (by first | exact Or.inl rfl | exact Or.inr rfl | assumption) dSp_explore_135 (ble rfl) (ble rfl) ⟨rfl, Or.inl ⟨hno hnone, rfl, hX4.2.2.2.2.2.2⟩⟩
          · rw [n2]
            have hii : vp_in (nI i) 2000 := vp_in_nI (by omega) (by decide)
            have hic : (nI i).toNatClampNeg = i := nI_clamp (by omega)
            refine v_istore C dSp_explore_126 (ble rfl) rfl ?_
            refine v_iload C dSp_explore_128 rfl ?_
            refine v_iconst C (-1) dSp_explore_130 (by decide) ?_
            refine v_icmp_ne C 136 dSp_explore_131 (by decide) (fun _ => ?_) (fun h => absurd h (fun e => by have h0 := nI_pos (n := i) (by omega); rw [e] at h0; exact h0 (by decide)))
            refine v_aload_n C 0 dSp_explore_136 rfl rfl ?_
            refine v_getr C cfSp (k := 2) (by assumption) rfl (by assumption) w83 dSp_explore_137 ?_
            refine v_iload C dSp_explore_140 rfl ?_
            refine v_iload C dSp_explore_142 rfl ?_
            refine v_iload C dSp_explore_144 rfl ?_
            refine v_icmp_ne C 159 dSp_explore_146 (by decide) (fun _ => ?_) (fun h => absurd h (fun e => by have h0 := (nI_eq (by omega) (by omega)).mp e; omega))
            refine v_aload_n C 0 dSp_explore_159 rfl rfl ?_
            refine v_getr C cfSp (k := 2) (by assumption) rfl (by assumption) w83 dSp_explore_160 ?_
            refine v_iload C dSp_explore_163 rfl ?_
            refine v_lald C (by assumption) (by assumption) dSp_explore_165 ?_
            rw [hic]
            refine v_aload_n C 0 dSp_explore_166 rfl rfl ?_
            refine v_getr C cfSp (k := 2) (by assumption) rfl (by assumption) w83 dSp_explore_167 ?_
            refine v_iload C dSp_explore_170 rfl ?_
            refine v_lald C (by assumption) (by assumption) dSp_explore_172 ?_
            rw [hfc]
            refine v_ladd C dSp_explore_173 ?_
            refine v_last C (by assumption) (by assumption) dSp_explore_174 ?_
            rw [hic]
            obtain ⟨a1, a2⟩ := xadd_old hX4 hf n1 n2
            exact goOn _ _ _ _ _ (exl.trans a1) a2
        · have hii : vp_in (nI X.1) 2000 := vp_in_nI h2 (by decide)
          have hic : (nI X.1).toNatClampNeg = X.1 := nI_clamp (by omega)
          refine v_istore C dSp_explore_126 (ble rfl) rfl ?_
          refine v_iload C dSp_explore_128 rfl ?_
          refine v_iconst C (-1) dSp_explore_130 (by decide) ?_
          refine v_icmp_ne C 136 dSp_explore_131 (by decide) (fun _ => ?_) (fun h => absurd h (fun e => by have h0 := nI_pos (n := X.1) (by omega); rw [e] at h0; exact h0 (by decide)))
          refine v_aload_n C 0 dSp_explore_136 rfl rfl ?_
          refine v_getr C cfSp (k := 2) (by assumption) rfl (by assumption) w83 dSp_explore_137 ?_
          refine v_iload C dSp_explore_140 rfl ?_
          refine v_iload C dSp_explore_142 rfl ?_
          refine v_iload C dSp_explore_144 rfl ?_
          refine v_icmp_ne C 159 dSp_explore_146 (by decide) (fun h => absurd rfl h) (fun _ => ?_)
          refine v_aload_n C 0 dSp_explore_149 rfl rfl ?_
          refine v_getr C cfSp (k := 2) (by assumption) rfl (by assumption) w83 dSp_explore_150 ?_
          refine v_iload C dSp_explore_153 rfl ?_
          refine v_lald C (by assumption) (by assumption) dSp_explore_155 ?_
          rw [hfc]
          refine v_goto C 174 dSp_explore_156 (by decide) ?_
          refine v_last C (by assumption) (by assumption) dSp_explore_174 ?_
          rw [hic]
          obtain ⟨a1, a2⟩ := xadd_new hX4 hf z3 h1 h2 hR
          exact goOn _ _ _ _ _ (exl.trans a1) a2
  have outer : ∀ (m f : Nat) (X : XS) (Ic : MI) (Jc : MJ), f + m = 2000 → XM I J2 s cnt ret own X Ic Jc → xfs (opE I u) (I u 5) ret own cnt m f X = xrun (opE I u) (I u 5) ret own cnt → V x g3 0 0 Ic Jc 48 [some (.ref s), some (.ref u), some (.int (nI cnt)), some (.int ret), some (.int own), some (.int (nI f)), none, none, none] [] := by
    intro m
    induction m with
    | zero =>
      intro f X Ic Jc h1 hX he
      refine v_iload C dSp_explore_48 rfl ?_
      refine v_sipush C 2000 dSp_explore_50 (by decide) ?_
      refine v_icmp_ge C 187 dSp_explore_53 (by decide) (fun _ => ?_) (fun h => absurd (nI_le (a := 2000) (by omega) (by omega)) h)
      refine v_iconst C 1 dSp_explore_187 (by decide) ?_
      exact v_zret C M (by first | exact Or.inl rfl | exact Or.inr rfl | assumption) dSp_explore_188 (ble rfl) (ble rfl) ⟨rfl, Or.inr ⟨X, he.symm, rfl, hX⟩⟩
    | succ m ih =>
      intro f X Ic Jc h1 hX he
      have hb := hX.2.1.1
      refine v_iload C dSp_explore_48 rfl ?_
      refine v_sipush C 2000 dSp_explore_50 (by decide) ?_
      refine v_icmp_ge C 187 dSp_explore_53 (by decide) (fun h => absurd h (nI_ge (b := 2000) (by omega) (by decide))) (fun _ => ?_)
      refine v_iload C dSp_explore_56 rfl ?_
      refine v_aload_n C 0 dSp_explore_58 rfl rfl ?_
      refine v_getr C cfSp (k := 0) (by assumption) rfl (by assumption) w79 dSp_explore_59 ?_
      refine v_geti C cfTa (k := 4) (by assumption) rfl w44 dSp_explore_62 ?_
      rw [hX.1.1.2.1]
      by_cases hf : f < X.1
      · refine v_icmp_ge C 187 dSp_explore_65 (by decide) (fun h => absurd h (nI_ge hf (by omega))) (fun _ => ?_)
        refine v_iconst C 0 dSp_explore_68 (by decide) ?_
        refine v_istore C dSp_explore_69 (ble rfl) rfl ?_
        refine inner cnt 0 f X Ic Jc (by omega) hf hX (fun X2 I5 J5 e2 h2 => ?_) (fun e2 => ?_)
        · refine v_iinc C (nI (f + 1)) dSp_explore_181 rfl (nI_1 f) (ble rfl) rfl ?_
          refine v_goto C 48 dSp_explore_184 (by decide) ?_
          refine ih (f + 1) X2 I5 J5 (by omega) h2 ?_
          rw [← he]
          simp only [xfs, if_pos hf, e2]
        · rw [← he]
          simp only [xfs, if_pos hf, e2]
      · refine v_icmp_ge C 187 dSp_explore_65 (by decide) (fun _ => ?_) (fun h => absurd (nI_le (by omega) (by omega)) h)
        refine v_iconst C 1 dSp_explore_187 (by decide) ?_
        refine v_zret C M (Or.inr rfl) dSp_explore_188 (ble rfl) (ble rfl) ⟨rfl, Or.inr ⟨X, ?_, rfl, hX⟩⟩
        rw [← he]
        simp only [xfs, if_neg hf]
  exact outer 2000 0 X0 _ _ (by omega) base rfl
end
section
abbrev TT : Type := Nat × (Nat → Int32) × (Nat → Int64)
def tins (T : TT) (key : Int32) (w : Int64) : TT := if lk T.2.1 T.2.2 key w T.1 = -1 ∧ T.1 < 2000 then (T.1 + 1, upF T.2.1 T.1 key, upF T.2.2 T.1 w) else T
def sae (ret : Int32) (K : Nat → Int32) (W9 : Nat → Int64) : Nat → TT
  | 0 => (0, fun _ => 0, fun _ => 0)
  | m + 1 => if isE ret (K m) then tins (sae ret K W9 m) (jiu (K m) 16) (W9 m) else sae ret K W9 m
def TIs (I : MI) (J : MJ) (t : Nat) (T : TT) : Prop := TabOK I J t T.1 ∧ ∀ i, i < T.1 → I (t + 1) i = T.2.1 i ∧ J (t + 2) i = T.2.2 i
theorem TIs_keep {g g2 : GM} {I I2 : MI} {J J2 : MJ} {t : Nat} {T : TT} {key : Int32} {w : Int64} {v : Option Value} (h : TIs I J t T) (hq : keepQ g I J t T.1 key w v g2 I2 J2) : g2 = g ∧ (∃ z, v = some (.int z)) ∧ TIs I2 J2 t (tins T key w) ∧ offB t 5 I J I2 J2 := by
  obtain ⟨e, hq⟩ := hq
  have el : lk (I (t + 1)) (J (t + 2)) key w T.1 = lk T.2.1 T.2.2 key w T.1 := lk_congr T.1 h.2
  rw [el] at hq
  rcases hq with ⟨h1, h2, h3, h4⟩ | ⟨h1, h2, h3, r1, r2, r3, r4, r5, r6, r7⟩
  · subst h3; subst h4
    have e2 : tins T key w = T := by
      unfold tins
      rw [if_neg]
      rintro ⟨q1, q2⟩
      rcases h1 with h1 | h1
      · exact h1 q1
      · omega
    rw [e2]
    exact ⟨e, ⟨_, h2⟩, h, fun _ _ => rfl, fun _ _ => rfl⟩
  · have e2 : tins T key w = (T.1 + 1, upF T.2.1 T.1 key, upF T.2.2 T.1 w) := by
      unfold tins
      rw [if_pos ⟨h1, h2⟩]
    rw [e2]
    refine ⟨e, ⟨_, h3⟩, ⟨r1, fun i hi => ?_⟩, fun b hb => r6 b hb, fun b hb => r7 b hb⟩
    have hi : i < T.1 + 1 := hi
    show _ = upF T.2.1 T.1 key i ∧ _ = upF T.2.2 T.1 w i
    unfold upF
    by_cases hq : i = T.1
    · subst hq
      exact ⟨by rw [if_pos rfl]; exact r2, by rw [if_pos rfl]; exact r3⟩
    · have h9 := h.2 i (by omega)
      exact ⟨by rw [if_neg hq, r4 i hq]; exact h9.1, by rw [if_neg hq, r5 i hq]; exact h9.2⟩
theorem c_Sp_statesAtEnds (l : Launch) (D : va_G) (g : GM) (I : MI) (J : MJ) {s t n : Nat} (hS : SpAt g s) (hT : TaAt g t) (hd : t + 5 ≤ s ∨ s + 9 ≤ t) (hn : I (s + 1) 4 = nI n) (hn2 : n ≤ 2000) : Ct l ySp_statesAtEnds bSp_statesAtEnds 3 (some .int) (rmN 2 51) D [.ref s, .ref t] g I J (fun v g2 I2 J2 => g2 = g ∧ v = some (.int (nI (sae (I s 6) (I (s + 1 + 1)) (J (s + 1 + 2)) n).1)) ∧ offB t 5 I J I2 J2) := by
  refine Ct.of (by decide) (ble rfl) [some (.ref s), some (.ref t), none] rfl ?_
  intro x C M
  obtain ⟨s0, ⟨t0, t1, t2, t3, t4, r0, r1, r2, r3⟩, s6, s7, s8, sr0, sr1, sr2, sr3⟩ := id hS
  have tt0 := hT.1
  refine v_aload_n C 1 dSp_statesAtEnds_0 rfl rfl ?_
  refine v_callV C (c_Ta_makeEmpty (kl x) (kD x) g I J hT) mwTa_makeEmpty cfTa (by assumption) w250 w251 w249 rfl rfl (ble rfl) (ble rfl) (ble rfl) (ble rfl) (ble rfl) dSp_statesAtEnds_1 ?_
  rintro v g2 I2 J2 ⟨rfl, rfl, rfl, m1, m2⟩
  refine v_iconst C 0 dSp_statesAtEnds_4 (by decide) ?_
  refine v_istore_n C 2 dSp_statesAtEnds_5 rfl (ble rfl) rfl ?_
  have loop : ∀ (m i : Nat) (Ic : MI) (Jc : MJ), i + m = n → TIs Ic Jc t (sae (I s 6) (I (s + 1 + 1)) (J2 (s + 1 + 2)) i) → offB t 5 I J2 Ic Jc → V x g2 0 0 Ic Jc 6 [some (.ref s), some (.ref t), some (.int (nI i))] [] := by
    intro m
    induction m with
    | zero =>
      intro i Ic Jc h1 hX ho
      refine v_iload_n C 2 dSp_statesAtEnds_6 rfl rfl ?_
      refine v_aload_n C 0 dSp_statesAtEnds_7 rfl rfl ?_
      refine v_getr C cfSp (k := 0) (by assumption) rfl (by assumption) w79 dSp_statesAtEnds_8 ?_
      refine v_geti C cfTa (k := 4) (by assumption) rfl w44 dSp_statesAtEnds_11 ?_
      rw [ho.1 (s + 1) (by omega), hn]
      refine v_icmp_ge C 57 dSp_statesAtEnds_14 (by decide) (fun _ => ?_) (fun h => absurd (nI_le (by omega) (by omega)) h)
      refine v_aload_n C 1 dSp_statesAtEnds_57 rfl rfl ?_
      refine v_geti C cfTa (k := 4) (by assumption) rfl w44 dSp_statesAtEnds_58 ?_
      have h3 : i = n := by omega
      rw [hX.1.2.1]
      exact v_iret C M dSp_statesAtEnds_61 (ble rfl) (ble rfl) ⟨rfl, by rw [h3], ho⟩
    | succ m ih =>
      intro i Ic Jc h1 hX ho
      have hi : i < 2000 := by omega
      have hic : (nI i).toNatClampNeg = i := nI_clamp (by omega)
      have hii : vp_in (nI i) 2000 := vp_in_nI hi (by decide)
      have k1 : Ic (s + 1 + 1) = I (s + 1 + 1) := ho.1 _ (by omega)
      have k2 : Jc (s + 1 + 2) = J2 (s + 1 + 2) := ho.2 _ (by omega)
      have k3 : Ic s = I s := ho.1 _ (by omega)
      refine v_iload_n C 2 dSp_statesAtEnds_6 rfl rfl ?_
      refine v_aload_n C 0 dSp_statesAtEnds_7 rfl rfl ?_
      refine v_getr C cfSp (k := 0) (by assumption) rfl (by assumption) w79 dSp_statesAtEnds_8 ?_
      refine v_geti C cfTa (k := 4) (by assumption) rfl w44 dSp_statesAtEnds_11 ?_
      rw [ho.1 (s + 1) (by omega), hn]
      refine v_icmp_ge C 57 dSp_statesAtEnds_14 (by decide) (fun h => absurd h (nI_ge (by omega) (by omega))) (fun _ => ?_)
      refine v_aload_n C 0 dSp_statesAtEnds_17 rfl rfl ?_
      refine v_iload_n C 2 dSp_statesAtEnds_18 rfl rfl ?_
      refine v_cVi C (c_Sp_isEnd (kl x) (kD x) g2 Ic Jc hS hi) mwSp_isEnd cfSp (by assumption) w321 w322 w320 rfl rfl (ble rfl) (ble rfl) (ble rfl) (ble rfl) (ble rfl) dSp_statesAtEnds_19 ?_
      rw [k1, k3]
      by_cases hE : isE (I s 6) (I (s + 1 + 1) i)
      · rw [if_pos hE]
        refine v_if_eq C 51 dSp_statesAtEnds_22 (by decide) (fun h => absurd h (by decide)) (fun _ => ?_)
        refine v_aload_n C 1 dSp_statesAtEnds_25 rfl rfl ?_
        refine v_aload_n C 0 dSp_statesAtEnds_26 rfl rfl ?_
        refine v_getr C cfSp (k := 0) (by assumption) rfl (by assumption) w79 dSp_statesAtEnds_27 ?_
        refine v_getr C cfTa (k := 0) (by assumption) rfl (by assumption) w38 dSp_statesAtEnds_30 ?_
        refine v_iload_n C 2 dSp_statesAtEnds_33 rfl rfl ?_
        refine v_iald C (by assumption) (by assumption) dSp_statesAtEnds_34 ?_
        rw [hic, k1]
        refine v_bipush C 16 dSp_statesAtEnds_35 (by decide) ?_
        refine v_iushr C dSp_statesAtEnds_37 ?_
        refine v_aload_n C 0 dSp_statesAtEnds_38 rfl rfl ?_
        refine v_getr C cfSp (k := 0) (by assumption) rfl (by assumption) w79 dSp_statesAtEnds_39 ?_
        refine v_getr C cfTa (k := 1) (by assumption) rfl (by assumption) w40 dSp_statesAtEnds_42 ?_
        refine v_iload_n C 2 dSp_statesAtEnds_45 rfl rfl ?_
        refine v_lald C (by assumption) (by assumption) dSp_statesAtEnds_46 ?_
        rw [hic, k2]
        refine v_callV C (c_Ta_keep (kl x) (kD x) g2 Ic Jc _ _ hT hX.1) mwTa_keep cfTa (by assumption) w255 w256 w254 rfl rfl (ble rfl) (ble rfl) (ble rfl) (ble rfl) (ble rfl) dSp_statesAtEnds_47 ?_
        intro v g3 I3 J3 hq
        obtain ⟨rfl, ⟨z, rfl⟩, hX3, ho3⟩ := TIs_keep hX hq
        refine v_pop C dSp_statesAtEnds_50 rfl ?_
        refine v_iinc C (nI (i + 1)) dSp_statesAtEnds_51 rfl (nI_1 i) (ble rfl) rfl ?_
        refine v_goto C 6 dSp_statesAtEnds_54 (by decide) ?_
        refine ih (i + 1) I3 J3 (by omega) ?_ ⟨fun b hb => by rw [ho3.1 b hb]; exact ho.1 b hb, fun b hb => by rw [ho3.2 b hb]; exact ho.2 b hb⟩
        simp only [sae, if_pos hE]
        exact hX3
      · rw [if_neg hE]
        refine v_if_eq C 51 dSp_statesAtEnds_22 (by decide) (fun _ => ?_) (fun h => absurd rfl h)
        refine v_iinc C (nI (i + 1)) dSp_statesAtEnds_51 rfl (nI_1 i) (ble rfl) rfl ?_
        refine v_goto C 6 dSp_statesAtEnds_54 (by decide) ?_
        refine ih (i + 1) Ic Jc (by omega) ?_ ho
        simp only [sae, if_neg hE]
        exact hX
  exact loop n 0 I2 J2 (by omega) ⟨m1, fun i hi => absurd hi (Nat.not_lt_zero i)⟩ ⟨fun b hb => m2 b hb, fun _ _ => rfl⟩
/-! which possibilities can still come to an end -/
def tgX (E : Nat → Nat → Int32) (kind ret own : Int32) (X : XS) (f p : Nat) : Int32 := match stp E kind ret own (X.2.1 f) (X.2.2.1 f) p with
  | none => -1
  | some c => lk X.2.1 X.2.2.1 (keyB (X.2.1 f) p c.2.1) c.1 X.1
def hscan (tg : Nat → Int32) (hop : Nat → Int32) : Nat → Nat → Int32 → Int32
  | 0, _, h => h
  | m + 1, p, h => if h = 0 then hscan tg hop m (p + 1) (if tg p ≠ -1 ∧ hop (ix (tg p)) ≠ 0 then 1 else 0) else h
def hmark (E : Nat → Nat → Int32) (kind ret own : Int32) (cnt : Nat) (X : XS) : Nat → (Nat → Int32) → Nat → Int32
  | 0, hop => hop
  | m + 1, hop => hmark E kind ret own cnt X m (upF hop m (hscan (tgX E kind ret own X m) hop cnt 0 (if isE ret (X.2.1 m) then 1 else 0)))
theorem dec1 (y : Int32) : y + Int32.ofInt (-1) = y - 1 := (Int32.sub_eq_add_neg y 1).symm
def hopQ (g : GM) (I : MI) (J : MJ) (s u cnt : Nat) (ret own : Int32) (X : XS) : Option Value → GM → MI → MJ → Prop := fun v g2 I2 J2 => v = none ∧ g2 = g ∧ I2 s 4 = 1 ∧ (∀ k, k ≠ 4 → I2 s k = I s k) ∧ (∀ b, b ≠ s → b ≠ s + 6 → b ≠ s + 8 → I2 b = I b) ∧ (∀ b, b ≠ s + 6 → J2 b = J b) ∧ ∃ h0, ∀ i, I2 (s + 8) i = hmark (opE I u) (I u 5) ret own cnt X X.1 h0 i
set_option maxHeartbeats 4000000 in
theorem c_Sp_markHopeful (l : Launch) (D : va_G) (g : GM) (I : MI) (J : MJ) {s u cnt : Nat} {ret own : Int32} {X : XS} (hS : SpAt g s) (hU : SuAt g u) (hcnt : cnt ≤ 16) (hX : XIs I J s X) (hK : KInv X) (h4 : I s 4 = 0) (h5 : I s 5 = nI cnt) (h6 : I s 6 = ret) (h7 : I s 7 = own) : Ct l ySp_markHopeful bSp_markHopeful 6 none (rmN 5 123) D [.ref s, .ref u] g I J (hopQ g I J s u cnt ret own X) := by
  refine Ct.of (by decide) (ble rfl) [some (.ref s), some (.ref u), none, none, none, none] rfl ?_
  intro x C M
  obtain ⟨s0, ⟨t0, t1, t2, t3, t4, r0, r1, r2, r3⟩, s6, s7, s8, sr0, sr1, sr2, sr3⟩ := id hS
  obtain ⟨u0, hO, -⟩ := id hU
  have ou := sp_out hS u0 (by decide)
  have oo : ∀ i, i < 16 → u + 14 + i < s ∨ s + 9 ≤ u + 14 + i := fun i hi => sp_out hS (hO.2 i hi).2 (by decide)
  have hb := hK.1
  refine v_aload_n C 0 dSp_markHopeful_0 rfl rfl ?_
  refine v_geti C cfSp (k := 4) (by assumption) rfl w86 dSp_markHopeful_1 ?_
  rw [h4]
  refine v_if_eq C 8 dSp_markHopeful_4 (by decide) (fun _ => ?_) (fun h => absurd rfl h)
  refine v_aload_n C 0 dSp_markHopeful_8 rfl rfl ?_
  refine v_iconst C 1 dSp_markHopeful_9 (by decide) ?_
  refine v_puti C cfSp (k := 4) (by assumption) rfl w86 rfl (by first | rfl | assumption) (by first | rfl | assumption) dSp_markHopeful_10 ?_
  refine v_aload_n C 0 dSp_markHopeful_13 rfl rfl ?_
  refine v_getr C cfSp (k := 0) (by assumption) rfl (by assumption) w79 dSp_markHopeful_14 ?_
  refine v_geti C cfTa (k := 4) (by assumption) rfl w44 dSp_markHopeful_17 ?_
  rw [s2_a (show s + 1 ≠ s by omega), hX.1.2.1]
  refine v_iconst C 1 dSp_markHopeful_20 (by decide) ?_
  refine v_isub C dSp_markHopeful_21 ?_
  refine v_istore_n C 2 dSp_markHopeful_22 rfl (ble rfl) rfl ?_
  -- what holds all along
  have loop : ∀ (m : Nat) (hop : Nat → Int32) (Ic : MI) (Jc : MJ), m ≤ X.1 → Ic s 4 = 1 → (∀ k, k ≠ 4 → Ic s k = I s k) → (∀ b, b ≠ s → b ≠ s + 6 → b ≠ s + 8 → Ic b = I b) → (∀ b, b ≠ s + 6 → Jc b = J b) → (∀ i, Ic (s + 8) i = hop i) → (∃ h0, hmark (opE I u) (I u 5) ret own cnt X m hop = hmark (opE I u) (I u 5) ret own cnt X X.1 h0) → V x g 0 0 Ic Jc 23 [some (.ref s), some (.ref u), some (.int (nI m - 1)), none, none, none] [] := by
    intro m
    induction m with
    | zero =>
      intro hop Ic Jc h0 a1 a2 a3 a4 a5 a6
      refine v_iload_n C 2 dSp_markHopeful_23 rfl rfl ?_
      refine v_if_lt C 100 dSp_markHopeful_24 (by decide) (fun _ => ?_) (fun h => absurd (by decide) h)
      obtain ⟨z, hz⟩ := a6
      exact v_vret C M dSp_markHopeful_100 (ble rfl) (ble rfl) ⟨rfl, rfl, a1, a2, a3, a4, z, fun i => by rw [a5 i, ← hz]; rfl⟩
    | succ m ih =>
      intro hop Ic Jc h0 a1 a2 a3 a4 a5 a6
      have hm : m < 2000 := by omega
      have hmX : m < X.1 := by omega
      have hmc : (nI m).toNatClampNeg = m := nI_clamp (by omega)
      have hmi : vp_in (nI m) 2000 := vp_in_nI hm (by decide)
      have b5 : Ic s 5 = nI cnt := (a2 5 (by decide)).trans h5
      have b6 : Ic s 6 = ret := (a2 6 (by decide)).trans h6
      have b7 : Ic s 7 = own := (a2 7 (by decide)).trans h7
      have bK : Ic (s + 1 + 1) = I (s + 1 + 1) := a3 _ (by omega) (by omega) (by omega)
      have bW : Jc (s + 1 + 2) = J (s + 1 + 2) := a4 _ (by omega)
      have bT : TabOK Ic Jc (s + 1) X.1 := hX.1.off (fun b q1 q2 => a3 b (by omega) (by omega) (by omega)) bW
      have ek : I (s + 1 + 1) m = X.2.1 m := (hX.2 m hmX).1
      have ew : J (s + 1 + 2) m = X.2.2.1 m := (hX.2 m hmX).2.1
      obtain ⟨km9, ksz, kg⟩ := hK.2 m hmX
      rw [nI_pred]
      refine v_iload_n C 2 dSp_markHopeful_23 rfl rfl ?_
      refine v_if_lt C 100 dSp_markHopeful_24 (by decide) (fun h => absurd h (nI_pos (by omega))) (fun _ => ?_)
      refine v_aload_n C 0 dSp_markHopeful_27 rfl rfl ?_
      refine v_iload_n C 2 dSp_markHopeful_28 rfl rfl ?_
      refine v_cVi C (c_Sp_isEnd (kl x) (kD x) g Ic Jc hS hm) mwSp_isEnd cfSp (by assumption) w321 w322 w320 rfl rfl (ble rfl) (ble rfl) (ble rfl) (ble rfl) (ble rfl) dSp_markHopeful_29 ?_
      rw [b6, bK, ek]
      refine v_istore_n C 3 dSp_markHopeful_32 rfl (ble rfl) rfl ?_
      refine v_iconst C 0 dSp_markHopeful_33 (by decide) ?_
      refine v_istore C dSp_markHopeful_34 (ble rfl) rfl ?_
      -- the places
      have places : ∀ (q p : Nat) (h : Int32) (I4 : MI) (J4 : MJ), p + q = cnt → (h = 0 ∨ h = 1) → hscan (tgX (opE I u) (I u 5) ret own X m) hop q p h = hscan (tgX (opE I u) (I u 5) ret own X m) hop cnt 0 (if isE ret (X.2.1 m) then 1 else 0) → offA (s + 6) Ic Jc I4 J4 → V x g 0 0 I4 J4 36 [some (.ref s), some (.ref u), some (.int (nI m)), some (.int h), some (.int (nI p)), none] [] := by
        have fin : ∀ (h : Int32) (z4 z5 : Option Value) (I4 : MI) (J4 : MJ), (h = 0 ∨ h = 1) → h = hscan (tgX (opE I u) (I u 5) ret own X m) hop cnt 0 (if isE ret (X.2.1 m) then 1 else 0) → offA (s + 6) Ic Jc I4 J4 → V x g 0 0 I4 J4 87 [some (.ref s), some (.ref u), some (.int (nI m)), some (.int h), z4, z5] [] := by
          intro h z4 z5 I4 J4 hh he ho
          refine v_aload_n C 0 dSp_markHopeful_87 rfl rfl ?_
          refine v_getr C cfSp (k := 3) (by assumption) rfl (by assumption) w84 dSp_markHopeful_88 ?_
          refine v_iload_n C 2 dSp_markHopeful_91 rfl rfl ?_
          refine v_iload_n C 3 dSp_markHopeful_92 rfl rfl ?_
          refine v_zast C (by assumption) (by assumption) (by first | exact Or.inl rfl | exact Or.inr rfl | assumption) dSp_markHopeful_93 ?_
          rw [hmc]
          refine v_iinc C (nI m - 1) dSp_markHopeful_94 rfl (dec1 _) (ble rfl) rfl ?_
          refine v_goto C 23 dSp_markHopeful_97 (by decide) ?_
          refine V.drop (lv2 := [some (.ref s), some (.ref u), some (.int (nI m - 1)), none, none, none]) ?_ ⟨rfl, rfl, rfl, trivial⟩
          refine ih (upF hop m h) _ _ (by omega) ?_ (fun k hk => ?_) (fun b q1 q2 q3 => ?_) (fun b q1 => ?_) (fun i => ?_) ?_
          · rw [s2_a (by omega), ho.1 s (by omega)]; exact a1
          · rw [s2_a (by omega), ho.1 s (by omega)]; exact a2 k hk
          · rw [s2_off q3, ho.1 b q2]; exact a3 b q1 q2 q3
          · rw [ho.2 b q1]; exact a4 b q1
          · rw [s2_row]
            show (if _ then _ else _) = upF hop m h i
            unfold upF
            by_cases hq : i = m
            · rw [if_pos hq, if_pos hq]
            · rw [if_neg hq, if_neg hq, ho.1 (s + 8) (by omega)]
              exact a5 i
          · rw [he]
            exact a6
        intro q
        induction q with
        | zero =>
          intro p h I4 J4 h1 hh he ho
          refine v_iload C dSp_markHopeful_36 rfl ?_
          refine v_aload_n C 0 dSp_markHopeful_38 rfl rfl ?_
          refine v_geti C cfSp (k := 5) (by assumption) rfl w87 dSp_markHopeful_39 ?_
          rw [ho.1 s (by omega), b5]
          refine v_icmp_ge C 87 dSp_markHopeful_42 (by decide) (fun _ => ?_) (fun h => absurd (nI_le (by omega) (by omega)) h)
          exact fin h _ _ I4 J4 hh he ho
        | succ q ihq =>
          intro p h I4 J4 h1 hh he ho
          have hp : p < 16 := by omega
          refine v_iload C dSp_markHopeful_36 rfl ?_
          refine v_aload_n C 0 dSp_markHopeful_38 rfl rfl ?_
          refine v_geti C cfSp (k := 5) (by assumption) rfl w87 dSp_markHopeful_39 ?_
          rw [ho.1 s (by omega), b5]
          refine v_icmp_ge C 87 dSp_markHopeful_42 (by decide) (fun h => absurd h (nI_ge (by omega) (by omega))) (fun _ => ?_)
          refine v_iload_n C 3 dSp_markHopeful_45 rfl rfl ?_
          by_cases hz : h = 0
          · subst hz
            refine v_if_ne C 87 dSp_markHopeful_46 (by decide) (fun h => absurd rfl h) (fun _ => ?_)
            have e1 : I4 (s + 1 + 1) m = X.2.1 m := by rw [ho.1 _ (by omega), bK]; exact ek
            have e2 : J4 (s + 1 + 2) m = X.2.2.1 m := by rw [ho.2 _ (by omega), bW]; exact ew
            have eT : TabOK I4 J4 (s + 1) X.1 := bT.off (fun b q1 q2 => ho.1 b (by omega)) (ho.2 _ (by omega))
            have estp : stp (opE I4 u) (I4 u 5) (I4 s 6) (I4 s 7) (I4 (s + 1 + 1) m) (J4 (s + 1 + 2) m) p = stp (opE I u) (I u 5) ret own (X.2.1 m) (X.2.2.1 m) p := by
              rw [e1, e2, ho.1 s (by omega), b6, b7, ho.1 u (by omega), a3 u (by omega) (by omega) (by omega)]
              exact stp_congr hp (fun i k hi => by show I4 _ _ = I _ _; have := oo i hi; rw [ho.1 _ (by omega), a3 _ (by omega) (by omega) (by omega)])
            have elk : ∀ key w, lk (I4 (s + 1 + 1)) (J4 (s + 1 + 2)) key w X.1 = lk X.2.1 X.2.2.1 key w X.1 := fun key w => lk_congr X.1 (fun i hi => by rw [ho.1 (s + 1 + 1) (by omega), ho.2 (s + 1 + 2) (by omega), bK, bW]; exact ⟨(hX.2 i hi).1, (hX.2 i hi).2.1⟩)
            refine v_aload_n C 0 dSp_markHopeful_49 rfl rfl ?_
            refine v_aload_n C 1 dSp_markHopeful_50 rfl rfl ?_
            refine v_iload_n C 2 dSp_markHopeful_51 rfl rfl ?_
            refine v_iload C dSp_markHopeful_52 rfl ?_
            refine v_callV C (c_Sp_target (kl x) (kD x) g I4 J4 hS hU hm hp (by rw [e1]; exact kg.1.size) kg.1.2.2 eT) mwSp_target cfSp (by assumption) w607 w608 w606 rfl rfl (ble rfl) (ble rfl) (ble rfl) (ble rfl) (ble rfl) dSp_markHopeful_54 ?_
            rintro v g5 I5 J5 ⟨rfl, ho5, hc⟩
            rw [estp] at hc
            have ho6 : offA (s + 6) Ic Jc I5 J5 := ⟨fun b hb => by rw [ho5.1 b hb]; exact ho.1 b hb, fun b hb => by rw [ho5.2 b hb]; exact ho.2 b hb⟩
            have hv : ∃ z, v = some (.int z) ∧ z = tgX (opE I u) (I u 5) ret own X m p := by
              unfold tgX
              rcases hc with ⟨q1, q2⟩ | ⟨c, q1, q2, q3⟩
              · exact ⟨_, q2, by rw [q1]⟩
              · refine ⟨_, q2, ?_⟩
                rw [q1, elk, e1]
            have next : ∀ (hn : Int32) (z5 : Option Value), (hn = 0 ∨ hn = 1) → hn = (if tgX (opE I u) (I u 5) ret own X m p ≠ -1 ∧ hop (ix (tgX (opE I u) (I u 5) ret own X m p)) ≠ 0 then 1 else 0) → V x g5 0 0 I5 J5 80 [some (.ref s), some (.ref u), some (.int (nI m)), some (.int 0), some (.int (nI p)), z5] [.int hn] := by
              intro hn z5 q1 q2
              refine v_istore_n C 3 dSp_markHopeful_80 rfl (ble rfl) rfl ?_
              refine v_iinc C (nI (p + 1)) dSp_markHopeful_81 rfl (nI_1 p) (ble rfl) rfl ?_
              refine v_goto C 36 dSp_markHopeful_84 (by decide) ?_
              refine V.drop (lv2 := [some (.ref s), some (.ref u), some (.int (nI m)), some (.int hn), some (.int (nI (p + 1))), none]) ?_ ⟨rfl, rfl, rfl, rfl, rfl, trivial⟩
              refine ihq (p + 1) hn I5 J5 (by omega) q1 ?_ ho6
              rw [← he, q2]
              simp only [hscan, if_pos]
            obtain ⟨z, rfl, hz⟩ := hv
            refine v_istore C dSp_markHopeful_57 (ble rfl) rfl ?_
            refine v_iload C dSp_markHopeful_59 rfl ?_
            refine v_iconst C (-1) dSp_markHopeful_61 (by decide) ?_
            by_cases hz1 : z = -1
            · rw [hz1]
              refine v_icmp_eq C 79 dSp_markHopeful_62 (by decide) (fun _ => ?_) (fun h => absurd rfl h)
              refine v_iconst C 0 dSp_markHopeful_79 (by decide) ?_
              exact next 0 _ (Or.inl rfl) (by rw [← hz, if_neg (fun h => h.1 hz1)])
            · refine v_icmp_eq C 79 dSp_markHopeful_62 (by decide) (fun h => absurd h hz1) (fun _ => ?_)
              have hzi : ∃ i, i < X.1 ∧ z = nI i := by
                rw [hz]
                unfold tgX
                rw [hz] at hz1
                unfold tgX at hz1
                split
                · rename_i h9
                  rw [h9] at hz1
                  exact absurd rfl hz1
                · rename_i c h9
                  rw [h9] at hz1
                  rcases lk_spec X.2.1 X.2.2.1 (keyB (X.2.1 m) p c.2.1) c.1 X.1 with ⟨n1, n2⟩ | ⟨i, n1, n2, n3⟩
                  · exact absurd n1 hz1
                  · exact ⟨i, n1, n2⟩
              obtain ⟨i, hi, hzn⟩ := hzi
              have hii : vp_in z 2000 := by rw [hzn]; exact vp_in_nI (by omega) (by decide)
              refine v_aload_n C 0 dSp_markHopeful_65 rfl rfl ?_
              refine v_getr C cfSp (k := 3) (by assumption) rfl (by assumption) w84 dSp_markHopeful_66 ?_
              refine v_iload C dSp_markHopeful_69 rfl ?_
              refine v_zald C (by assumption) (by assumption) dSp_markHopeful_71 ?_
              have e8 : I5 (s + 8) z.toNatClampNeg = hop (ix z) := by rw [ho6.1 (s + 8) (by omega)]; exact a5 _
              rw [e8]
              by_cases hh0 : hop (ix z) = 0
              · rw [hh0]
                refine v_if_eq C 79 dSp_markHopeful_72 (by decide) (fun _ => ?_) (fun h => absurd rfl h)
                refine v_iconst C 0 dSp_markHopeful_79 (by decide) ?_
                exact next 0 _ (Or.inl rfl) (by rw [← hz, if_neg (fun h => h.2 hh0)])
              · refine v_if_eq C 79 dSp_markHopeful_72 (by decide) (fun h => absurd h hh0) (fun _ => ?_)
                refine v_iconst C 1 dSp_markHopeful_75 (by decide) ?_
                refine v_goto C 80 dSp_markHopeful_76 (by decide) ?_
                exact next 1 _ (Or.inr rfl) (by rw [← hz, if_pos ⟨hz1, hh0⟩])
          · refine v_if_ne C 87 dSp_markHopeful_46 (by decide) (fun _ => ?_) (fun h => absurd h hz)
            refine fin h _ _ I4 J4 hh ?_ ho
            rw [← he]
            simp only [hscan, if_neg hz]
      exact places cnt 0 _ Ic Jc (by omega) (by split <;> simp) rfl ⟨fun _ _ => rfl, fun _ _ => rfl⟩
  exact loop X.1 (I (s + 8)) _ _ (Nat.le_refl _) (s2_self _ _ _ _) (fun k hk => s2_k hk) (fun b q1 _ _ => s2_off q1) (fun _ _ => rfl) (fun i => by rw [s2_off (by omega)]) ⟨_, rfl⟩
end
section
/-! Subject -/
def plsOf (P : Nat → Int32) (pr : Int32) : Nat → Int32
  | 0 => 0
  | m + 1 => if P m = pr then plsOf P pr m ||| jish 1 (nI m) else plsOf P pr m
def nmF (N9 : Nat → Int32) (num : Int32) : Nat → Nat → Nat
  | 0, i => i
  | m + 1, i => if N9 i = num then i else nmF N9 num m (i + 1)
def numOf (I : MI) (u o : Nat) : Int32 := if I u 5 = 5 then I o 3 else I o 2
theorem c_Su_forget (l : Launch) (D : va_G) (g : GM) (I : MI) (J : MJ) {u : Nat} (u0 : g.1 u = (3, 0)) : Ct l ySu_forget bSu_forget 1 none (rmN 0 0) D [.ref u] g I J (PF none g (s2 (s2 I u 9 0) u 14 0) J) := by
  refine Ct.of (by decide) (ble rfl) [some (.ref u)] rfl ?_
  intro x C M
  refine v_aload_n C 0 dSu_forget_0 rfl rfl ?_
  refine v_iconst C 0 dSu_forget_1 (by decide) ?_
  refine v_puti C cfSu (k := 9) (by assumption) rfl w397 rfl (by first | rfl | assumption) (by first | rfl | assumption) dSu_forget_2 ?_
  refine v_aload_n C 0 dSu_forget_5 rfl rfl ?_
  refine v_iconst C 0 dSu_forget_6 (by decide) ?_
  refine v_puti C cfSu (k := 14) (by assumption) rfl w406 rfl (by first | rfl | assumption) (by first | rfl | assumption) dSu_forget_7 ?_
  exact v_vret C M dSu_forget_10 (ble rfl) (ble rfl) (pf_v rfl rfl)
def begI (I : MI) (u : Nat) (kind : Int32) : MI := s2 (s2 (s2 (s2 (s2 (s2 (s2 (s2 I u 5 kind) u 6 0) u 7 0) u 8 0) u 16 0) u 17 (-1)) u 9 0) u 14 0
theorem c_Su_begin (l : Launch) (D : va_G) (g : GM) (I : MI) (J : MJ) {u : Nat} (kind : Int32) (u0 : g.1 u = (3, 0)) : Ct l ySu_begin bSu_begin 2 none (rmN 1 20) D [.ref u, .int kind] g I J (PF none g (begI I u kind) J) := by
  refine Ct.of (by decide) (ble rfl) [some (.ref u), some (.int kind)] rfl ?_
  intro x C M
  refine v_aload_n C 0 dSu_begin_0 rfl rfl ?_
  refine v_iload_n C 1 dSu_begin_1 rfl rfl ?_
  refine v_puti C cfSu (k := 5) (by assumption) rfl w391 rfl rfl rfl dSu_begin_2 ?_
  refine v_aload_n C 0 dSu_begin_5 rfl rfl ?_
  refine v_iconst C 0 dSu_begin_6 (by decide) ?_
  refine v_puti C cfSu (k := 6) (by assumption) rfl w393 rfl rfl rfl dSu_begin_7 ?_
  refine v_aload_n C 0 dSu_begin_10 rfl rfl ?_
  refine v_iconst C 0 dSu_begin_11 (by decide) ?_
  refine v_puti C cfSu (k := 7) (by assumption) rfl w395 rfl rfl rfl dSu_begin_12 ?_
  refine v_aload_n C 0 dSu_begin_15 rfl rfl ?_
  refine v_iconst C 0 dSu_begin_16 (by decide) ?_
  refine v_puti C cfSu (k := 8) (by assumption) rfl w396 rfl rfl rfl dSu_begin_17 ?_
  refine v_aload_n C 0 dSu_begin_20 rfl rfl ?_
  refine v_iconst C 0 dSu_begin_21 (by decide) ?_
  refine v_puti C cfSu (k := 16) (by assumption) rfl w409 rfl rfl rfl dSu_begin_22 ?_
  refine v_aload_n C 0 dSu_begin_25 rfl rfl ?_
  refine v_iconst C (-1) dSu_begin_26 (by decide) ?_
  refine v_puti C cfSu (k := 17) (by assumption) rfl w410 rfl rfl rfl dSu_begin_27 ?_
  refine v_aload_n C 0 dSu_begin_30 rfl rfl ?_
  refine v_cVv C (c_Su_forget (kl x) (kD x) g _ J u0) mwSu_forget cfSu (by assumption) w454 w455 w453 rfl rfl (ble rfl) (ble rfl) (ble rfl) (ble rfl) (ble rfl) dSu_begin_31 ?_
  exact v_vret C M dSu_begin_34 (ble rfl) (ble rfl) (pf_v rfl rfl)
theorem c_Su_operationsOfKind (l : Launch) (D : va_G) (g : GM) (I : MI) (J : MJ) {u : Nat} (u0 : g.1 u = (3, 0)) : Ct l ySu_operationsOfKind bSu_operationsOfKind 1 (some .int) (rmN 0 0) D [.ref u] g I J (PF (some (.int (if I u 5 = 0 then 5 else 3))) g I J) := by
  refine Ct.of (by decide) (ble rfl) [some (.ref u)] rfl ?_
  intro x C M
  refine v_aload_n C 0 dSu_operationsOfKind_0 rfl rfl ?_
  refine v_geti C cfSu (k := 5) (by assumption) rfl w391 dSu_operationsOfKind_1 ?_
  refine v_if_ne C 11 dSu_operationsOfKind_4 (by decide) (fun c4 => ?_) (fun c4 => ?_)
  · refine v_iconst C 3 dSu_operationsOfKind_11 (by decide) ?_
    exact v_iret C M dSu_operationsOfKind_12 (ble rfl) (ble rfl) (pf_i (by rw [if_neg c4]) rfl rfl)
  · refine v_iconst C 5 dSu_operationsOfKind_7 (by decide) ?_
    refine v_goto C 12 dSu_operationsOfKind_8 (by decide) ?_
    exact v_iret C M dSu_operationsOfKind_12 (ble rfl) (ble rfl) (pf_i (by rw [if_pos c4]) rfl rfl)
theorem c_Su_numberOf (l : Launch) (D : va_G) (g : GM) (I : MI) (J : MJ) {u o m : Nat} (u0 : g.1 u = (3, 0)) (ho : g.1 o = (0, m)) : Ct l ySu_numberOf bSu_numberOf 2 (some .int) (rmN 0 0) D [.ref u, .ref o] g I J (PF (some (.int (numOf I u o))) g I J) := by
  refine Ct.of (by decide) (ble rfl) [some (.ref u), some (.ref o)] rfl ?_
  intro x C M
  refine v_aload_n C 0 dSu_numberOf_0 rfl rfl ?_
  refine v_geti C cfSu (k := 5) (by assumption) rfl w391 dSu_numberOf_1 ?_
  refine v_iconst C 5 dSu_numberOf_4 (by decide) ?_
  refine v_icmp_ne C 15 dSu_numberOf_5 (by decide) (fun c5 => ?_) (fun c5 => ?_)
  · refine v_aload_n C 1 dSu_numberOf_15 rfl rfl ?_
    refine v_geti C cfOp (k := 2) (by assumption) rfl w356 dSu_numberOf_16 ?_
    exact v_iret C M dSu_numberOf_19 (ble rfl) (ble rfl) (pf_i (by unfold numOf; rw [if_neg c5]) rfl rfl)
  · refine v_aload_n C 1 dSu_numberOf_8 rfl rfl ?_
    refine v_geti C cfOp (k := 3) (by assumption) rfl w358 dSu_numberOf_9 ?_
    refine v_goto C 19 dSu_numberOf_12 (by decide) ?_
    exact v_iret C M dSu_numberOf_19 (ble rfl) (ble rfl) (pf_i (by unfold numOf; rw [if_pos c5]) rfl rfl)
theorem c_Su_placesOf (l : Launch) (D : va_G) (g : GM) (I : MI) (J : MJ) {u n : Nat} (pr : Int32) (hU : SuAt g u) (hn : I u 6 = nI n) (hn2 : n ≤ 16) : Ct l ySu_placesOf bSu_placesOf 4 (some .int) (rmN 0 0) D [.ref u, .int pr] g I J (PF (some (.int (plsOf (fun i => I (u + 14 + i) 0) pr n))) g I J) := by
  refine Ct.of (by decide) (ble rfl) [some (.ref u), some (.int pr), none, none] rfl ?_
  intro x C M
  obtain ⟨u0, hO, -, -, -, -, ur0, -⟩ := id hU
  have uA := hO.1
  refine v_iconst C 0 dSu_placesOf_0 (by decide) ?_
  refine v_istore_n C 2 dSu_placesOf_1 rfl (ble rfl) rfl ?_
  refine v_iconst C 0 dSu_placesOf_2 (by decide) ?_
  refine v_istore_n C 3 dSu_placesOf_3 rfl (ble rfl) rfl ?_
  have loop : ∀ (m i : Nat) (z : Int32), i + m = n → z = plsOf (fun i => I (u + 14 + i) 0) pr i → V x g 0 0 I J 4 [some (.ref u), some (.int pr), some (.int z), some (.int (nI i))] [] := by
    intro m
    induction m with
    | zero =>
      intro i z h1 h2
      refine v_iload_n C 3 dSu_placesOf_4 rfl rfl ?_
      refine v_aload_n C 0 dSu_placesOf_5 rfl rfl ?_
      refine v_geti C cfSu (k := 6) (by assumption) rfl w393 dSu_placesOf_6 ?_
      rw [hn]
      refine v_icmp_ge C 37 dSu_placesOf_9 (by decide) (fun _ => ?_) (fun h => absurd (nI_le (by omega) (by omega)) h)
      refine v_iload_n C 2 dSu_placesOf_37 rfl rfl ?_
      have h3 : i = n := by omega
      exact v_iret C M dSu_placesOf_38 (ble rfl) (ble rfl) (pf_i (by rw [h2, h3]) rfl rfl)
    | succ m ih =>
      intro i z h1 h2
      have hi : i < 16 := by omega
      have hic : (nI i).toNatClampNeg = i := nI_clamp (by omega)
      have hii : vp_in (nI i) 16 := vp_in_nI hi (by decide)
      have hor : g.2.1 (u + 1) (nI i).toNatClampNeg = some (u + 14 + i) := by rw [hic]; exact (hO.2 i hi).1
      have ho : g.1 (u + 14 + i) = (0, 0) := (hO.2 i hi).2
      refine v_iload_n C 3 dSu_placesOf_4 rfl rfl ?_
      refine v_aload_n C 0 dSu_placesOf_5 rfl rfl ?_
      refine v_geti C cfSu (k := 6) (by assumption) rfl w393 dSu_placesOf_6 ?_
      rw [hn]
      refine v_icmp_ge C 37 dSu_placesOf_9 (by decide) (fun h => absurd h (nI_ge (by omega) (by omega))) (fun _ => ?_)
      refine v_aload_n C 0 dSu_placesOf_12 rfl rfl ?_
      refine v_getr C cfSu (k := 0) (by assumption) rfl (by assumption) w384 dSu_placesOf_13 ?_
      refine v_iload_n C 3 dSu_placesOf_16 rfl rfl ?_
      refine v_pald C (by assumption) (by assumption) (by assumption) dSu_placesOf_17 ?_
      refine v_geti C cfOp (k := 0) (by assumption) rfl w352 dSu_placesOf_18 ?_
      refine v_iload_n C 1 dSu_placesOf_21 rfl rfl ?_
      refine v_icmp_ne C 31 dSu_placesOf_22 (by decide) (fun c22 => ?_) (fun c22 => ?_)
      · refine v_iinc C (nI (i + 1)) dSu_placesOf_31 rfl (nI_1 i) (ble rfl) rfl ?_
        refine v_goto C 4 dSu_placesOf_34 (by decide) ?_
        exact ih (i + 1) _ (by omega) (by rw [h2]; show _ = (if _ then _ else _); rw [if_neg c22])
      · refine v_iload_n C 2 dSu_placesOf_25 rfl rfl ?_
        refine v_iconst C 1 dSu_placesOf_26 (by decide) ?_
        refine v_iload_n C 3 dSu_placesOf_27 rfl rfl ?_
        refine v_ishl C dSu_placesOf_28 ?_
        refine v_ior C dSu_placesOf_29 ?_
        refine v_istore_n C 2 dSu_placesOf_30 rfl (ble rfl) rfl ?_
        refine v_iinc C (nI (i + 1)) dSu_placesOf_31 rfl (nI_1 i) (ble rfl) rfl ?_
        refine v_goto C 4 dSu_placesOf_34 (by decide) ?_
        exact ih (i + 1) _ (by omega) (by rw [h2]; show _ = (if _ then _ else _); rw [if_pos c22]; rfl)
  exact loop n 0 0 (by omega) rfl
theorem c_Su_nameOf (l : Launch) (D : va_G) (g : GM) (I : MI) (J : MJ) {u n : Nat} (num : Int32) (hU : SuAt g u) (hn : I u 6 = nI n) (hn2 : n ≤ 16) : Ct l ySu_nameOf bSu_nameOf 3 (some .int) (rmN 1 21) D [.ref u, .int num] g I J (PF (some (.int (nI (nmF (fun i => numOf I u (u + 14 + i)) num n 0)))) g I J) := by
  refine Ct.of (by decide) (ble rfl) [some (.ref u), some (.int num), none] rfl ?_
  intro x C M
  obtain ⟨u0, hO, -, -, -, -, ur0, -⟩ := id hU
  have uA := hO.1
  refine v_iconst C 0 dSu_nameOf_0 (by decide) ?_
  refine v_istore_n C 2 dSu_nameOf_1 rfl (ble rfl) rfl ?_
  have loop : ∀ (m i : Nat), i + m = n → nmF (fun i => numOf I u (u + 14 + i)) num m i = nmF (fun i => numOf I u (u + 14 + i)) num n 0 → V x g 0 0 I J 2 [some (.ref u), some (.int num), some (.int (nI i))] [] := by
    intro m
    induction m with
    | zero =>
      intro i h1 h2
      refine v_iload_n C 2 dSu_nameOf_2 rfl rfl ?_
      refine v_aload_n C 0 dSu_nameOf_3 rfl rfl ?_
      refine v_geti C cfSu (k := 6) (by assumption) rfl w393 dSu_nameOf_4 ?_
      rw [hn]
      refine v_icmp_ge C 32 dSu_nameOf_7 (by decide) (fun _ => ?_) (fun h => absurd (nI_le (by omega) (by omega)) h)
      refine v_aload_n C 0 dSu_nameOf_32 rfl rfl ?_
      refine v_geti C cfSu (k := 6) (by assumption) rfl w393 dSu_nameOf_33 ?_
      rw [hn]
      have h3 : i = n := by omega
      exact v_iret C M dSu_nameOf_36 (ble rfl) (ble rfl) (pf_i (by rw [← h2, ← h3]; rfl) rfl rfl)
    | succ m ih =>
      intro i h1 h2
      have hi : i < 16 := by omega
      have hic : (nI i).toNatClampNeg = i := nI_clamp (by omega)
      have hii : vp_in (nI i) 16 := vp_in_nI hi (by decide)
      have hor : g.2.1 (u + 1) (nI i).toNatClampNeg = some (u + 14 + i) := by rw [hic]; exact (hO.2 i hi).1
      have ho : g.1 (u + 14 + i) = (0, 0) := (hO.2 i hi).2
      refine v_iload_n C 2 dSu_nameOf_2 rfl rfl ?_
      refine v_aload_n C 0 dSu_nameOf_3 rfl rfl ?_
      refine v_geti C cfSu (k := 6) (by assumption) rfl w393 dSu_nameOf_4 ?_
      rw [hn]
      refine v_icmp_ge C 32 dSu_nameOf_7 (by decide) (fun h => absurd h (nI_ge (by omega) (by omega))) (fun _ => ?_)
      refine v_aload_n C 0 dSu_nameOf_10 rfl rfl ?_
      refine v_aload_n C 0 dSu_nameOf_11 rfl rfl ?_
      refine v_getr C cfSu (k := 0) (by assumption) rfl (by assumption) w384 dSu_nameOf_12 ?_
      refine v_iload_n C 2 dSu_nameOf_15 rfl rfl ?_
      refine v_pald C (by assumption) (by assumption) (by assumption) dSu_nameOf_16 ?_
      refine v_cVi C (c_Su_numberOf (kl x) (kD x) g I J u0 ho) mwSu_numberOf cfSu (by assumption) w500 w501 w499 rfl rfl (ble rfl) (ble rfl) (ble rfl) (ble rfl) (ble rfl) dSu_nameOf_17 ?_
      refine v_iload_n C 1 dSu_nameOf_20 rfl rfl ?_
      refine v_icmp_ne C 26 dSu_nameOf_21 (by decide) (fun c21 => ?_) (fun c21 => ?_)
      · refine v_iinc C (nI (i + 1)) dSu_nameOf_26 rfl (nI_1 i) (ble rfl) rfl ?_
        refine v_goto C 2 dSu_nameOf_29 (by decide) ?_
        refine ih (i + 1) (by omega) ?_
        rw [← h2]
        simp only [nmF, if_neg c21]
      · refine v_iload_n C 2 dSu_nameOf_24 rfl rfl ?_
        exact v_iret C M dSu_nameOf_25 (ble rfl) (ble rfl) (pf_i (by rw [← h2]; simp only [nmF, if_pos c21]) rfl rfl)
  exact loop n 0 (by omega) rfl
def addI (I : MI) (u n : Nat) (pr code a b : Int32) : MI :=
  s2 (s2 (s2 (s2 (s2 (s2 (s2 (s2 (s2 (s2 (s2 I (u + 14 + n) 0 pr) (u + 14 + n) 1 code) (u + 14 + n) 2 a) (u + 14 + n) 3 b) (u + 14 + n) 5 0) (u + 14 + n) 6 (I u 8)) (u + 14 + n) 7 (plsOf (fun i => I (u + 14 + i) 0) pr n)) (u + 14 + n) 4 (nI (nmF (fun i => numOf I u (u + 14 + i)) (if I u 5 = 5 then b else a) n 0))) u 6 (nI (n + 1))) u 9 0) u 14 0
theorem plsOf_congr {P P2 : Nat → Int32} {pr : Int32} : ∀ n : Nat, (∀ i, i < n → P2 i = P i) → plsOf P2 pr n = plsOf P pr n
  | 0, _ => rfl
  | n + 1, h => by
    simp only [plsOf]
    rw [h n (Nat.lt_succ_self n), plsOf_congr n (fun i hi => h i (Nat.lt_succ_of_lt hi))]
theorem nmF_congr {P P2 : Nat → Int32} {num : Int32} : ∀ (m i : Nat), (∀ j, i ≤ j → j < i + m → P2 j = P j) → nmF P2 num m i = nmF P num m i
  | 0, _, _ => rfl
  | m + 1, i, h => by
    simp only [nmF]
    rw [h i (Nat.le_refl i) (by omega), nmF_congr m (i + 1) (fun j h1 h2 => h j (by omega) (by omega))]
theorem c_Su_addOperation (l : Launch) (D : va_G) (g : GM) (I : MI) (J : MJ) {u n : Nat} (pr code a b : Int32) (hU : SuAt g u) (hn : I u 6 = nI n) (hn2 : n < 16) : Ct l ySu_addOperation bSu_addOperation 6 none (rmN 2 43) D [.ref u, .int pr, .int code, .int a, .int b] g I J (PF none g (addI I u n pr code a b) J) := by
  refine Ct.of (by decide) (ble rfl) [some (.ref u), some (.int pr), some (.int code), some (.int a), some (.int b), none] rfl ?_
  intro x C M
  obtain ⟨u0, hO, -, -, -, -, ur0, -⟩ := id hU
  have uA := hO.1
  have hic : (nI n).toNatClampNeg = n := nI_clamp (by omega)
  have hii : vp_in (nI n) 16 := vp_in_nI hn2 (by decide)
  have hor : g.2.1 (u + 1) (nI n).toNatClampNeg = some (u + 14 + n) := by rw [hic]; exact (hO.2 n hn2).1
  have ho : g.1 (u + 14 + n) = (0, 0) := (hO.2 n hn2).2
  refine v_aload_n C 0 dSu_addOperation_0 rfl rfl ?_
  refine v_geti C cfSu (k := 6) (by assumption) rfl w393 dSu_addOperation_1 ?_
  rw [hn]
  refine v_bipush C 16 dSu_addOperation_4 (by decide) ?_
  refine v_icmp_lt C 10 dSu_addOperation_6 (by decide) (fun _ => ?_) (fun h => absurd (nI_lt (b := 16) hn2 (by decide)) h)
  refine v_aload_n C 0 dSu_addOperation_10 rfl rfl ?_
  refine v_getr C cfSu (k := 0) (by assumption) rfl (by assumption) w384 dSu_addOperation_11 ?_
  refine v_aload_n C 0 dSu_addOperation_14 rfl rfl ?_
  refine v_geti C cfSu (k := 6) (by assumption) rfl w393 dSu_addOperation_15 ?_
  rw [hn]
  refine v_pald C (by assumption) (by assumption) (by assumption) dSu_addOperation_18 ?_
  refine v_astore C dSu_addOperation_19 (ble rfl) rfl ?_
  refine v_aload C dSu_addOperation_21 rfl ?_
  refine v_iload_n C 1 dSu_addOperation_23 rfl rfl ?_
  refine v_puti C cfOp (k := 0) (by assumption) rfl w352 rfl rfl rfl dSu_addOperation_24 ?_
  refine v_aload C dSu_addOperation_27 rfl ?_
  refine v_iload_n C 2 dSu_addOperation_29 rfl rfl ?_
  refine v_puti C cfOp (k := 1) (by assumption) rfl w354 rfl rfl rfl dSu_addOperation_30 ?_
  refine v_aload C dSu_addOperation_33 rfl ?_
  refine v_iload_n C 3 dSu_addOperation_35 rfl rfl ?_
  refine v_puti C cfOp (k := 2) (by assumption) rfl w356 rfl rfl rfl dSu_addOperation_36 ?_
  refine v_aload C dSu_addOperation_39 rfl ?_
  refine v_iload C dSu_addOperation_41 rfl ?_
  refine v_puti C cfOp (k := 3) (by assumption) rfl w358 rfl rfl rfl dSu_addOperation_43 ?_
  refine v_aload C dSu_addOperation_46 rfl ?_
  refine v_iconst C 0 dSu_addOperation_48 (by decide) ?_
  refine v_puti C cfOp (k := 5) (by assumption) rfl w362 rfl rfl rfl dSu_addOperation_49 ?_
  refine v_aload C dSu_addOperation_52 rfl ?_
  refine v_aload_n C 0 dSu_addOperation_54 rfl rfl ?_
  refine v_geti C cfSu (k := 8) (by assumption) rfl w396 dSu_addOperation_55 ?_
  rw [s2_a (show u ≠ u + 14 + n by omega), s2_a (show u ≠ u + 14 + n by omega), s2_a (show u ≠ u + 14 + n by omega), s2_a (show u ≠ u + 14 + n by omega), s2_a (show u ≠ u + 14 + n by omega)]
  refine v_puti C cfOp (k := 6) (by assumption) rfl w364 rfl rfl rfl dSu_addOperation_58 ?_
  refine v_aload C dSu_addOperation_61 rfl ?_
  refine v_aload_n C 0 dSu_addOperation_63 rfl rfl ?_
  refine v_iload_n C 1 dSu_addOperation_64 rfl rfl ?_
  generalize eI : s2 (s2 (s2 (s2 (s2 (s2 I (u + 14 + n) 0 pr) (u + 14 + n) 1 code) (u + 14 + n) 2 a) (u + 14 + n) 3 b) (u + 14 + n) 5 0) (u + 14 + n) 6 (I u 8) = I6
  have o6 : ∀ q, q ≠ u + 14 + n → I6 q = I q := fun q hq => by rw [← eI, s2_off hq, s2_off hq, s2_off hq, s2_off hq, s2_off hq, s2_off hq]
  have e6u : I6 u = I u := o6 u (by omega)
  have en6 : I6 u 6 = nI n := by rw [e6u]; exact hn
  refine v_cVi C (c_Su_placesOf (kl x) (kD x) g I6 J pr hU en6 (by omega)) mwSu_placesOf cfSu (by assumption) w496 w497 w495 rfl rfl (ble rfl) (ble rfl) (ble rfl) (ble rfl) (ble rfl) dSu_addOperation_65 ?_
  rw [plsOf_congr (P := fun i => I (u + 14 + i) 0) n (fun i hi => by show I6 _ _ = I _ _; rw [o6 _ (by omega)])]
  refine v_puti C cfOp (k := 7) (by assumption) rfl w366 rfl rfl rfl dSu_addOperation_68 ?_
  refine v_aload C dSu_addOperation_71 rfl ?_
  refine v_aload_n C 0 dSu_addOperation_73 rfl rfl ?_
  refine v_aload_n C 0 dSu_addOperation_74 rfl rfl ?_
  refine v_aload C dSu_addOperation_75 rfl ?_
  refine v_cVi C (c_Su_numberOf (kl x) (kD x) g _ J u0 ho) mwSu_numberOf cfSu (by assumption) w500 w501 w499 rfl rfl (ble rfl) (ble rfl) (ble rfl) (ble rfl) (ble rfl) dSu_addOperation_77 ?_
  have enum : numOf (s2 I6 (u + 14 + n) 7 (plsOf (fun i => I (u + 14 + i) 0) pr n)) u (u + 14 + n) = (if I u 5 = 5 then b else a) := by
    unfold numOf
    rw [s2_a (show u ≠ u + 14 + n by omega), s2_k (by decide), s2_k (by decide), e6u, ← eI]
    rw [s2_k (by decide), s2_k (by decide), s2_self, s2_k (by decide), s2_k (by decide), s2_k (by decide), s2_self]
  rw [enum]
  refine v_cVi C (c_Su_nameOf (kl x) (kD x) g _ J _ hU (by rw [s2_a (by omega)]; exact en6) (by omega)) mwSu_nameOf cfSu (by assumption) w504 w505 w503 rfl rfl (ble rfl) (ble rfl) (ble rfl) (ble rfl) (ble rfl) dSu_addOperation_80 ?_
  rw [nmF_congr (P := fun i => numOf I u (u + 14 + i)) n 0 (fun j _ hj => by
    show numOf _ _ _ = numOf _ _ _
    unfold numOf
    rw [s2_a (by omega), s2_a (by omega), s2_a (by omega), o6 _ (by omega), o6 _ (by omega)])]
  refine v_puti C cfOp (k := 4) (by assumption) rfl w360 rfl rfl rfl dSu_addOperation_83 ?_
  refine v_aload_n C 0 dSu_addOperation_86 rfl rfl ?_
  refine v_dup C dSu_addOperation_87 rfl ?_
  refine v_geti C cfSu (k := 6) (by assumption) rfl w393 dSu_addOperation_88 ?_
  rw [s2_a (show u ≠ u + 14 + n by omega), s2_a (show u ≠ u + 14 + n by omega), e6u, hn]
  refine v_iconst C 1 dSu_addOperation_91 (by decide) ?_
  refine v_iadd C dSu_addOperation_92 ?_
  refine v_puti C cfSu (k := 6) (by assumption) rfl w393 rfl rfl rfl dSu_addOperation_93 ?_
  refine v_aload_n C 0 dSu_addOperation_96 rfl rfl ?_
  refine v_cVv C (c_Su_forget (kl x) (kD x) g _ J u0) mwSu_forget cfSu (by assumption) w454 w455 w453 rfl rfl (ble rfl) (ble rfl) (ble rfl) (ble rfl) (ble rfl) dSu_addOperation_97 ?_
  exact v_vret C M dSu_addOperation_100 (ble rfl) (ble rfl) (pf_v (by rw [← eI, nI_1]; rfl) rfl)
def endI (I : MI) (u p k : Nat) (res ev : Int32) : MI :=
  s2 (s2 (s2 (s2 (s2 (s2 (s2 (s2 I (u + 14 + p) 5 res) u 8 (I u 8 ||| jish 1 (nI p))) (u + 11) k ev) (u + 12) k (I u 6)) (u + 13) k (I u 8 ||| jish 1 (nI p))) u 7 (nI (k + 1))) u 9 0) u 14 0
theorem c_Su_endOperation (l : Launch) (D : va_G) (g : GM) (I : MI) (J : MJ) {u n p k : Nat} (res ev : Int32) (hU : SuAt g u) (hn : I u 6 = nI n) (hn2 : n ≤ 16) (hp : p < n) (hk : I u 7 = nI k) (hk2 : k < 16) : Ct l ySu_endOperation bSu_endOperation 4 none (rmN 1 20) D [.ref u, .int (nI p), .int res, .int ev] g I J (PF none g (endI I u p k res ev) J) := by
  refine Ct.of (by decide) (ble rfl) [some (.ref u), some (.int (nI p)), some (.int res), some (.int ev)] rfl ?_
  intro x C M
  obtain ⟨u0, hO, -, u11, u12, u13, ur0, ur1, ur2, ur3, ur4⟩ := id hU
  have uA := hO.1
  have hp16 : p < 16 := by omega
  have hpc : (nI p).toNatClampNeg = p := nI_clamp (by omega)
  have hpi : vp_in (nI p) 16 := vp_in_nI hp16 (by decide)
  have hkc : (nI k).toNatClampNeg = k := nI_clamp (by omega)
  have hki : vp_in (nI k) 16 := vp_in_nI hk2 (by decide)
  have hor : g.2.1 (u + 1) (nI p).toNatClampNeg = some (u + 14 + p) := by rw [hpc]; exact (hO.2 p hp16).1
  have ho : g.1 (u + 14 + p) = (0, 0) := (hO.2 p hp16).2
  refine v_iload_n C 1 dSu_endOperation_0 rfl rfl ?_
  refine v_if_lt C 21 dSu_endOperation_1 (by decide) (fun h => absurd h (nI_pos (by omega))) (fun _ => ?_)
  refine v_iload_n C 1 dSu_endOperation_4 rfl rfl ?_
  refine v_aload_n C 0 dSu_endOperation_5 rfl rfl ?_
  refine v_geti C cfSu (k := 6) (by assumption) rfl w393 dSu_endOperation_6 ?_
  rw [hn]
  refine v_icmp_ge C 21 dSu_endOperation_9 (by decide) (fun h => absurd h (nI_ge hp (by omega))) (fun _ => ?_)
  refine v_aload_n C 0 dSu_endOperation_12 rfl rfl ?_
  refine v_geti C cfSu (k := 7) (by assumption) rfl w395 dSu_endOperation_13 ?_
  rw [hk]
  refine v_bipush C 16 dSu_endOperation_16 (by decide) ?_
  refine v_icmp_lt C 22 dSu_endOperation_18 (by decide) (fun _ => ?_) (fun h => absurd (nI_lt (b := 16) hk2 (by decide)) h)
  refine v_aload_n C 0 dSu_endOperation_22 rfl rfl ?_
  refine v_getr C cfSu (k := 0) (by assumption) rfl (by assumption) w384 dSu_endOperation_23 ?_
  refine v_iload_n C 1 dSu_endOperation_26 rfl rfl ?_
  refine v_pald C (by assumption) (by assumption) (by assumption) dSu_endOperation_27 ?_
  refine v_iload_n C 2 dSu_endOperation_28 rfl rfl ?_
  refine v_puti C cfOp (k := 5) (by assumption) rfl w362 rfl rfl rfl dSu_endOperation_29 ?_
  refine v_aload_n C 0 dSu_endOperation_32 rfl rfl ?_
  refine v_dup C dSu_endOperation_33 rfl ?_
  refine v_geti C cfSu (k := 8) (by assumption) rfl w396 dSu_endOperation_34 ?_
  rw [s2_a (show u ≠ u + 14 + p by omega)]
  refine v_iconst C 1 dSu_endOperation_37 (by decide) ?_
  refine v_iload_n C 1 dSu_endOperation_38 rfl rfl ?_
  refine v_ishl C dSu_endOperation_39 ?_
  refine v_ior C dSu_endOperation_40 ?_
  refine v_puti C cfSu (k := 8) (by assumption) rfl w396 rfl rfl rfl dSu_endOperation_41 ?_
  refine v_aload_n C 0 dSu_endOperation_44 rfl rfl ?_
  refine v_getr C cfSu (k := 2) (by assumption) rfl (by assumption) w388 dSu_endOperation_45 ?_
  refine v_aload_n C 0 dSu_endOperation_48 rfl rfl ?_
  refine v_geti C cfSu (k := 7) (by assumption) rfl w395 dSu_endOperation_49 ?_
  rw [s2_k (show 7 ≠ 8 by decide), s2_a (show u ≠ u + 14 + p by omega), hk]
  refine v_iload_n C 3 dSu_endOperation_52 rfl rfl ?_
  refine v_iast C (by assumption) (by assumption) dSu_endOperation_53 ?_
  rw [hkc]
  refine v_aload_n C 0 dSu_endOperation_54 rfl rfl ?_
  refine v_getr C cfSu (k := 3) (by assumption) rfl (by assumption) w389 dSu_endOperation_55 ?_
  refine v_aload_n C 0 dSu_endOperation_58 rfl rfl ?_
  refine v_geti C cfSu (k := 7) (by assumption) rfl w395 dSu_endOperation_59 ?_
  rw [s2_a (show u ≠ u + 11 by omega), s2_k (show 7 ≠ 8 by decide), s2_a (show u ≠ u + 14 + p by omega), hk]
  refine v_aload_n C 0 dSu_endOperation_62 rfl rfl ?_
  refine v_geti C cfSu (k := 6) (by assumption) rfl w393 dSu_endOperation_63 ?_
  rw [s2_a (show u ≠ u + 11 by omega), s2_k (show 6 ≠ 8 by decide), s2_a (show u ≠ u + 14 + p by omega)]
  refine v_iast C (by assumption) (by assumption) dSu_endOperation_66 ?_
  rw [hkc]
  refine v_aload_n C 0 dSu_endOperation_67 rfl rfl ?_
  refine v_getr C cfSu (k := 4) (by assumption) rfl (by assumption) w390 dSu_endOperation_68 ?_
  refine v_aload_n C 0 dSu_endOperation_71 rfl rfl ?_
  refine v_geti C cfSu (k := 7) (by assumption) rfl w395 dSu_endOperation_72 ?_
  rw [s2_a (show u ≠ u + 12 by omega), s2_a (show u ≠ u + 11 by omega), s2_k (show 7 ≠ 8 by decide), s2_a (show u ≠ u + 14 + p by omega), hk]
  refine v_aload_n C 0 dSu_endOperation_75 rfl rfl ?_
  refine v_geti C cfSu (k := 8) (by assumption) rfl w396 dSu_endOperation_76 ?_
  rw [s2_a (show u ≠ u + 12 by omega), s2_a (show u ≠ u + 11 by omega), s2_self]
  refine v_iast C (by assumption) (by assumption) dSu_endOperation_79 ?_
  rw [hkc]
  refine v_aload_n C 0 dSu_endOperation_80 rfl rfl ?_
  refine v_dup C dSu_endOperation_81 rfl ?_
  refine v_geti C cfSu (k := 7) (by assumption) rfl w395 dSu_endOperation_82 ?_
  rw [s2_a (show u ≠ u + 13 by omega), s2_a (show u ≠ u + 12 by omega), s2_a (show u ≠ u + 11 by omega), s2_k (show 7 ≠ 8 by decide), s2_a (show u ≠ u + 14 + p by omega), hk]
  refine v_iconst C 1 dSu_endOperation_85 (by decide) ?_
  refine v_iadd C dSu_endOperation_86 ?_
  refine v_puti C cfSu (k := 7) (by assumption) rfl w395 rfl rfl rfl dSu_endOperation_87 ?_
  refine v_aload_n C 0 dSu_endOperation_90 rfl rfl ?_
  refine v_cVv C (c_Su_forget (kl x) (kD x) g _ J u0) mwSu_forget cfSu (by assumption) w454 w455 w453 rfl rfl (ble rfl) (ble rfl) (ble rfl) (ble rfl) (ble rfl) dSu_endOperation_91 ?_
  exact v_vret C M dSu_endOperation_94 (ble rfl) (ble rfl) (pf_v (by rw [nI_1]; rfl) rfl)
end
section
theorem wsum_congr {ret : Int32} {K K2 : Nat → Int32} {Y Y2 : Nat → Int64} : ∀ n : Nat, (∀ i, i < n → K2 i = K i ∧ Y2 i = Y i) → wsum ret K2 Y2 n = wsum ret K Y n
  | 0, _ => rfl
  | n + 1, h => by
    simp only [wsum]
    rw [(h n (Nat.lt_succ_self n)).1, (h n (Nat.lt_succ_self n)).2, wsum_congr n (fun i hi => h i (Nat.lt_succ_of_lt hi))]
theorem sae_congr {ret : Int32} {K K2 : Nat → Int32} {Y Y2 : Nat → Int64} : ∀ n : Nat, (∀ i, i < n → K2 i = K i ∧ Y2 i = Y i) → sae ret K2 Y2 n = sae ret K Y n
  | 0, _ => rfl
  | n + 1, h => by
    simp only [sae]
    rw [(h n (Nat.lt_succ_self n)).1, (h n (Nat.lt_succ_self n)).2, sae_congr n (fun i hi => h i (Nat.lt_succ_of_lt hi))]
def jdg (w : Int64) : Int32 := if w ≤ 0 then 0 else 1
/-- what is found out of an object: its four answers, and its space as it is then -/
def fndR (E : Nat → Nat → Int32) (kind ret : Int32) (n : Nat) (u : Nat) (I2 : MI) (J2 : MJ) : Prop :=
  (xrun E kind ret 0 n = none ∧ I2 u 10 = -2 ∧ J2 u 12 = -2 ∧ I2 u 13 = -2 ∧ I2 u 11 = -2) ∨
  ∃ X, xrun E kind ret 0 n = some X ∧ I2 u 10 = nI X.1 ∧ J2 u 12 = wsum ret X.2.1 X.2.2.2 X.1 ∧ I2 u 13 = nI (sae ret X.2.1 X.2.2.1 X.1).1 ∧ I2 u 11 = jdg (wsum ret X.2.1 X.2.2.2 X.1) ∧ XIs I2 J2 (u + 2) X ∧ KInv X ∧ I2 (u + 2) 4 = 0 ∧ I2 (u + 2) 5 = nI n ∧ I2 (u + 2) 6 = ret ∧ I2 (u + 2) 7 = 0
def lrnQ (g : GM) (I : MI) (J : MJ) (u sc n : Nat) : Option Value → GM → MI → MJ → Prop := fun v g2 I2 J2 => v = none ∧ g2 = g ∧ (I u 9 ≠ 0 ∧ I2 = I ∧ J2 = J ∨ I u 9 = 0 ∧ I2 u 9 = 1 ∧ (∀ k, k ≠ 9 → k ≠ 10 → k ≠ 11 → k ≠ 13 → I2 u k = I u k) ∧ (∀ k, k ≠ 12 → J2 u k = J u k) ∧ (∀ b, b ≠ u → (b < u + 2 ∨ u + 11 ≤ b) → (b < sc + 1 ∨ sc + 6 ≤ b) → I2 b = I b ∧ J2 b = J b) ∧ fndR (opE I u) (I u 5) (I u 8) n u I2 J2)
set_option maxHeartbeats 4000000 in
theorem c_Su_learn (l : Launch) (D : va_G) (g : GM) (I : MI) (J : MJ) {u sc n : Nat} (hU : SuAt g u) (hC : SpAt g sc) (hd : sc + 9 ≤ u ∨ u + 30 ≤ sc) (hn : I u 6 = nI n) (hn2 : n ≤ 16) : Ct l ySu_learn bSu_learn 2 none (rmN 5 128) D [.ref u, .ref sc] g I J (lrnQ g I J u sc n) := by
  refine Ct.of (by decide) (ble rfl) [some (.ref u), some (.ref sc)] rfl ?_
  intro x C M
  obtain ⟨u0, hO, hS, u11, u12, u13, ur0, ur1, ur2, ur3, ur4⟩ := id hU
  obtain ⟨s0, hT, s6, s7, s8, sr0, sr1, sr2, sr3⟩ := id hS
  have t0 := hT.1
  obtain ⟨sc0, hTc, -, -, -, scr0, -⟩ := id hC
  refine v_aload_n C 0 dSu_learn_0 rfl rfl ?_
  refine v_geti C cfSu (k := 9) (by assumption) rfl w397 dSu_learn_1 ?_
  by_cases h9 : I u 9 = 0
  · rw [h9]
    refine v_if_eq C 8 dSu_learn_4 (by decide) (fun _ => ?_) (fun h => absurd rfl h)
    refine v_aload_n C 0 dSu_learn_8 rfl rfl ?_
    refine v_iconst C 1 dSu_learn_9 (by decide) ?_
    refine v_puti C cfSu (k := 9) (by assumption) rfl w397 rfl (by first | rfl | assumption) (by first | rfl | assumption) dSu_learn_10 ?_
    refine v_aload_n C 0 dSu_learn_13 rfl rfl ?_
    refine v_getr C cfSu (k := 1) (by assumption) rfl (by assumption) w386 dSu_learn_14 ?_
    refine v_aload_n C 0 dSu_learn_17 rfl rfl ?_
    refine v_aload_n C 0 dSu_learn_18 rfl rfl ?_
    refine v_geti C cfSu (k := 6) (by assumption) rfl w393 dSu_learn_19 ?_
    rw [s2_k (show 6 ≠ 9 by decide), hn]
    refine v_aload_n C 0 dSu_learn_22 rfl rfl ?_
    refine v_geti C cfSu (k := 8) (by assumption) rfl w396 dSu_learn_23 ?_
    rw [s2_k (show 8 ≠ 9 by decide)]
    refine v_iconst C 0 dSu_learn_26 (by decide) ?_
    refine v_callV C (c_Sp_explore (kl x) (kD x) g (s2 I u 9 1) J (I u 8) 0 hS hU hn2 (Or.inl rfl)) mwSp_explore cfSp (by assumption) w246 w247 w245 rfl rfl (ble rfl) (ble rfl) (ble rfl) (ble rfl) (ble rfl) dSu_learn_27 ?_
    rintro v g2 I2 J2 ⟨rfl, hq⟩
    have eE : opE (s2 I u 9 1) u = opE I u := by
      funext i k
      show s2 I u 9 1 (u + 14 + i) k = I (u + 14 + i) k
      rw [s2_a (by omega)]
    rw [eE, s2_k (show 5 ≠ 9 by decide)] at hq
    rcases hq with ⟨e1, rfl, ho⟩ | ⟨X, e1, rfl, hX, hK, h4, h5, h6, h7, ho⟩
    · refine v_if_eq C 94 dSu_learn_30 (by decide) (fun _ => ?_) (fun h => absurd rfl h)
      refine v_aload_n C 0 dSu_learn_94 rfl rfl ?_
      refine v_bipush C (-2) dSu_learn_95 (by decide) ?_
      refine v_puti C cfSu (k := 10) (by assumption) rfl w399 rfl rfl rfl dSu_learn_97 ?_
      refine v_aload_n C 0 dSu_learn_100 rfl rfl ?_
      refine v_ldc2 C w328 dSu_learn_101 ?_
      refine v_putl C cfSu (k := 12) (by assumption) rfl w402 rfl rfl rfl dSu_learn_104 ?_
      refine v_aload_n C 0 dSu_learn_107 rfl rfl ?_
      refine v_bipush C (-2) dSu_learn_108 (by decide) ?_
      refine v_puti C cfSu (k := 13) (by assumption) rfl w404 rfl rfl rfl dSu_learn_110 ?_
      refine v_aload_n C 0 dSu_learn_113 rfl rfl ?_
      refine v_bipush C (-2) dSu_learn_114 (by decide) ?_
      refine v_puti C cfSu (k := 11) (by assumption) rfl w401 rfl rfl rfl dSu_learn_116 ?_
      have bu : I2 u = s2 I u 9 1 u := ho.1 u (by omega)
      have bj : J2 u = J u := ho.2 u (by omega)
      refine v_vret C M dSu_learn_119 (ble rfl) (ble rfl) ⟨rfl, rfl, Or.inr ⟨h9, ?_, fun k k1 k2 k3 k4 => ?_, fun k k1 => ?_, fun b b1 b2 b3 => ?_, Or.inl ⟨e1, ?_, ?_, ?_, ?_⟩⟩⟩
      · rw [s2_k (by decide), s2_k (by decide), s2_k (by decide), bu, s2_self]
      · rw [s2_k k3, s2_k k4, s2_k k2, bu, s2_k k1]
      · rw [s2_k k1, bj]
      · rw [s2_off b1, s2_off b1, s2_off b1, s2_off b1, ho.1 b (by omega), ho.2 b (by omega), s2_off b1]
        exact ⟨rfl, rfl⟩
      · rw [s2_k (by decide), s2_k (by decide), s2_self]
      · rw [s2_self]
      · rw [s2_k (by decide), s2_self]
      · rw [s2_self]
    · refine v_if_eq C 94 dSu_learn_30 (by decide) (fun h => absurd h (by decide)) (fun _ => ?_)
      have bu : I2 u = s2 I u 9 1 u := ho.1 u (by omega)
      have bj : J2 u = J u := ho.2 u (by omega)
      refine v_aload_n C 0 dSu_learn_33 rfl rfl ?_
      refine v_aload_n C 0 dSu_learn_34 rfl rfl ?_
      refine v_getr C cfSu (k := 1) (by assumption) rfl (by assumption) w386 dSu_learn_35 ?_
      refine v_getr C cfSp (k := 0) (by assumption) rfl (by assumption) w80 dSu_learn_38 ?_
      refine v_geti C cfTa (k := 4) (by assumption) rfl w45 dSu_learn_41 ?_
      rw [hX.1.2.1]
      refine v_puti C cfSu (k := 10) (by assumption) rfl w399 rfl rfl rfl dSu_learn_44 ?_
      refine v_aload_n C 0 dSu_learn_47 rfl rfl ?_
      refine v_aload_n C 0 dSu_learn_48 rfl rfl ?_
      refine v_getr C cfSu (k := 1) (by assumption) rfl (by assumption) w386 dSu_learn_49 ?_
      have en3 : s2 I2 u 10 (nI X.1) (u + 2 + 1) 4 = nI X.1 := by rw [s2_a (by omega)]; exact hX.1.2.1
      refine v_cVl C (c_Sp_waysToEnds (kl x) (kD x) _ (s2 I2 u 10 (nI X.1)) J2 hS en3 hK.1) mwSp_waysToEnds cfSp (by assumption) w317 w318 w316 rfl rfl (ble rfl) (ble rfl) (ble rfl) (ble rfl) (ble rfl) dSu_learn_52 ?_
      have ew : wsum (s2 I2 u 10 (nI X.1) (u + 2) 6) (s2 I2 u 10 (nI X.1) (u + 2 + 1 + 1)) (J2 (u + 2 + 7)) X.1 = wsum (I u 8) X.2.1 X.2.2.2 X.1 := by
        rw [s2_a (show u + 2 ≠ u by omega), h6]
        exact wsum_congr X.1 (fun i hi => ⟨by rw [s2_a (by omega)]; exact (hX.2 i hi).1, (hX.2 i hi).2.2⟩)
      rw [ew]
      refine v_putl C cfSu (k := 12) (by assumption) rfl w402 rfl rfl rfl dSu_learn_55 ?_
      refine v_aload_n C 0 dSu_learn_58 rfl rfl ?_
      refine v_aload_n C 0 dSu_learn_59 rfl rfl ?_
      refine v_getr C cfSu (k := 1) (by assumption) rfl (by assumption) w386 dSu_learn_60 ?_
      refine v_aload_n C 1 dSu_learn_63 rfl rfl ?_
      refine v_getr C cfSp (k := 0) (by assumption) rfl (by assumption) w80 dSu_learn_64 ?_
      have en4 : s2 I2 u 10 (nI X.1) (u + 2 + 1) 4 = nI X.1 := en3
      refine v_callV C (c_Sp_statesAtEnds (kl x) (kD x) _ _ _ hS hTc (by omega) en4 hK.1) mwSp_statesAtEnds cfSp (by assumption) w325 w326 w324 rfl rfl (ble rfl) (ble rfl) (ble rfl) (ble rfl) (ble rfl) dSu_learn_67 ?_
      rintro v g3 I3 J3 ⟨rfl, rfl, o3⟩
      have es : sae (s2 I2 u 10 (nI X.1) (u + 2) 6) (s2 I2 u 10 (nI X.1) (u + 2 + 1 + 1)) (s2 J2 u 12 (wsum (I u 8) X.2.1 X.2.2.2 X.1) (u + 2 + 1 + 2)) X.1 = sae (I u 8) X.2.1 X.2.2.1 X.1 := by
        rw [s2_a (show u + 2 ≠ u by omega), h6]
        exact sae_congr X.1 (fun i hi => ⟨by rw [s2_a (by omega)]; exact (hX.2 i hi).1, by rw [s2_a (by omega)]; exact (hX.2 i hi).2.1⟩)
      rw [es]
      have cu : I3 u = s2 I2 u 10 (nI X.1) u := o3.1 u (by omega)
      have cj : J3 u = s2 J2 u 12 (wsum (I u 8) X.2.1 X.2.2.2 X.1) u := o3.2 u (by omega)
      refine v_puti C cfSu (k := 13) (by assumption) rfl w404 rfl rfl rfl dSu_learn_70 ?_
      refine v_aload_n C 0 dSu_learn_73 rfl rfl ?_
      refine v_aload_n C 0 dSu_learn_74 rfl rfl ?_
      refine v_getl C cfSu (k := 12) (by assumption) rfl w402 dSu_learn_75 ?_
      rw [cj, s2_self]
      refine v_lconst C 0 dSu_learn_78 (by decide) ?_
      refine v_lcmp C dSu_learn_79 ?_
      have fin : ∀ z : Int32, z = jdg (wsum (I u 8) X.2.1 X.2.2.2 X.1) → V x g3 0 0 (s2 I3 u 13 (nI (sae (I u 8) X.2.1 X.2.2.1 X.1).1)) J3 88 [some (.ref u), some (.ref sc)] [.int z, .ref u] := by
        intro z hz
        refine v_puti C cfSu (k := 11) (by assumption) rfl w401 rfl rfl rfl dSu_learn_88 ?_
        refine v_goto C 119 dSu_learn_91 (by decide) ?_
        have bs : ∀ b, u + 2 ≤ b → b < u + 11 → (s2 (s2 I3 u 13 (nI (sae (I u 8) X.2.1 X.2.2.1 X.1).1)) u 11 z) b = I2 b := fun b b1 b2 => by rw [s2_off (by omega), s2_off (by omega), o3.1 b (by omega), s2_off (by omega)]
        have bt : ∀ b, u + 2 ≤ b → b < u + 11 → J3 b = J2 b := fun b b1 b2 => by rw [o3.2 b (by omega), s2_off (by omega)]
        refine v_vret C M dSu_learn_119 (ble rfl) (ble rfl) ⟨rfl, rfl, Or.inr ⟨h9, ?_, fun k k1 k2 k3 k4 => ?_, fun k k1 => ?_, fun b b1 b2 b3 => ?_, Or.inr ⟨X, e1, ?_, ?_, ?_, ?_, ?_, hK, ?_, ?_, ?_, ?_⟩⟩⟩
        · rw [s2_k (by decide), s2_k (by decide), cu, s2_k (by decide), bu, s2_self]
        · rw [s2_k k3, s2_k k4, cu, s2_k k2, bu, s2_k k1]
        · rw [cj, s2_k k1, bj]
        · rw [s2_off b1, s2_off b1, o3.1 b (by omega), o3.2 b (by omega), s2_off b1, s2_off b1, ho.1 b (by omega), ho.2 b (by omega), s2_off b1]
          exact ⟨rfl, rfl⟩
        · rw [s2_k (by decide), s2_k (by decide), cu, s2_self]
        · rw [cj, s2_self]
        · rw [s2_k (by decide), s2_self]
        · rw [s2_self, hz]
        · refine ⟨hX.1.off (fun b b1 b2 => bs b (by omega) (by omega)) (bt _ (by omega) (by omega)), ?_⟩
          rw [bs (u + 2 + 1 + 1) (by omega) (by omega), bt (u + 2 + 1 + 2) (by omega) (by omega), bt (u + 2 + 7) (by omega) (by omega)]
          exact hX.2
        · rw [bs (u + 2) (by omega) (by omega)]; exact h4
        · rw [bs (u + 2) (by omega) (by omega)]; exact h5
        · rw [bs (u + 2) (by omega) (by omega)]; exact h6
        · rw [bs (u + 2) (by omega) (by omega)]; exact h7
      refine v_if_le C 87 dSu_learn_80 (by decide) (fun c80 => ?_) (fun c80 => ?_)
      · refine v_iconst C 0 dSu_learn_87 (by decide) ?_
        exact fin 0 (by unfold jdg; rw [if_pos ((lg_cmp_le _ _).mp c80)])
      · refine v_iconst C 1 dSu_learn_83 (by decide) ?_
        refine v_goto C 88 dSu_learn_84 (by decide) ?_
        exact fin 1 (by unfold jdg; rw [if_neg (fun h => c80 ((lg_cmp_le _ _).mpr h))])
  · refine v_if_eq C 8 dSu_learn_4 (by decide) (fun h => absurd h h9) (fun _ => ?_)
    exact v_vret C M dSu_learn_7 (ble rfl) (ble rfl) ⟨rfl, rfl, Or.inl ⟨h9, rfl, rfl⟩⟩
def ownR (E : Nat → Nat → Int32) (kind ret : Int32) (n : Nat) : Int32 := match xrun E kind ret 1 n with
  | none => -2
  | some X => jdg (wsum ret X.2.1 X.2.2.2 X.1)
def lroQ (g : GM) (I : MI) (J : MJ) (u sc n : Nat) : Option Value → GM → MI → MJ → Prop := fun v g2 I2 J2 => v = none ∧ g2 = g ∧ (I u 14 ≠ 0 ∧ I2 = I ∧ J2 = J ∨ I u 14 = 0 ∧ I2 u 14 = 1 ∧ I2 u 15 = ownR (opE I u) (I u 5) (I u 8) n ∧ (∀ k, k ≠ 14 → k ≠ 15 → I2 u k = I u k) ∧ (∀ b, b ≠ u → (b < sc ∨ sc + 9 ≤ b) → I2 b = I b) ∧ ∀ b, b < sc ∨ sc + 9 ≤ b → J2 b = J b)
set_option maxHeartbeats 4000000 in
theorem c_Su_learnOwn (l : Launch) (D : va_G) (g : GM) (I : MI) (J : MJ) {u sc n : Nat} (hU : SuAt g u) (hC : SpAt g sc) (hd : sc + 9 ≤ u ∨ u + 30 ≤ sc) (hn : I u 6 = nI n) (hn2 : n ≤ 16) : Ct l ySu_learnOwn bSu_learnOwn 2 none (rmN 5 128) D [.ref u, .ref sc] g I J (lroQ g I J u sc n) := by
  refine Ct.of (by decide) (ble rfl) [some (.ref u), some (.ref sc)] rfl ?_
  intro x C M
  obtain ⟨u0, hO, hS, u11, u12, u13, ur0, ur1, ur2, ur3, ur4⟩ := id hU
  obtain ⟨sc0, hTc, -, -, -, scr0, -⟩ := id hC
  refine v_aload_n C 0 dSu_learnOwn_0 rfl rfl ?_
  refine v_geti C cfSu (k := 14) (by assumption) rfl w406 dSu_learnOwn_1 ?_
  by_cases h9 : I u 14 = 0
  · rw [h9]
    refine v_if_eq C 8 dSu_learnOwn_4 (by decide) (fun _ => ?_) (fun h => absurd rfl h)
    refine v_aload_n C 0 dSu_learnOwn_8 rfl rfl ?_
    refine v_iconst C 1 dSu_learnOwn_9 (by decide) ?_
    refine v_puti C cfSu (k := 14) (by assumption) rfl w406 rfl (by first | rfl | assumption) (by first | rfl | assumption) dSu_learnOwn_10 ?_
    refine v_aload_n C 1 dSu_learnOwn_13 rfl rfl ?_
    refine v_aload_n C 0 dSu_learnOwn_14 rfl rfl ?_
    refine v_aload_n C 0 dSu_learnOwn_15 rfl rfl ?_
    refine v_geti C cfSu (k := 6) (by assumption) rfl w393 dSu_learnOwn_16 ?_
    rw [s2_k (show 6 ≠ 14 by decide), hn]
    refine v_aload_n C 0 dSu_learnOwn_19 rfl rfl ?_
    refine v_geti C cfSu (k := 8) (by assumption) rfl w396 dSu_learnOwn_20 ?_
    rw [s2_k (show 8 ≠ 14 by decide)]
    refine v_iconst C 1 dSu_learnOwn_23 (by decide) ?_
    refine v_callV C (c_Sp_explore (kl x) (kD x) g (s2 I u 14 1) J (I u 8) 1 hC hU hn2 (Or.inr rfl)) mwSp_explore cfSp (by assumption) w246 w247 w245 rfl rfl (ble rfl) (ble rfl) (ble rfl) (ble rfl) (ble rfl) dSu_learnOwn_24 ?_
    rintro v g2 I2 J2 ⟨rfl, hq⟩
    have eE : opE (s2 I u 14 1) u = opE I u := by
      funext i k
      show s2 I u 14 1 (u + 14 + i) k = I (u + 14 + i) k
      rw [s2_a (by omega)]
    rw [eE, s2_k (show 5 ≠ 14 by decide)] at hq
    have fin : ∀ z : Int32, z = ownR (opE I u) (I u 5) (I u 8) n → offB sc 9 (s2 I u 14 1) J I2 J2 → lroQ g2 I J u sc n none g2 (s2 I2 u 15 z) J2 := by
      intro z hz ho
      have bu : I2 u = s2 I u 14 1 u := ho.1 u (by omega)
      refine ⟨rfl, rfl, Or.inr ⟨h9, ?_, ?_, fun k k1 k2 => ?_, fun b b1 b2 => ?_, fun b b2 => ho.2 b b2⟩⟩
      · rw [s2_k (by decide), bu, s2_self]
      · rw [s2_self, hz]
      · rw [s2_k k2, bu, s2_k k1]
      · rw [s2_off b1, ho.1 b b2, s2_off b1]
    rcases hq with ⟨e1, rfl, ho⟩ | ⟨X, e1, rfl, hX, hK, h4, h5, h6, h7, ho⟩
    · refine v_if_eq C 51 dSu_learnOwn_27 (by decide) (fun _ => ?_) (fun h => absurd rfl h)
      refine v_aload_n C 0 dSu_learnOwn_51 rfl rfl ?_
      refine v_bipush C (-2) dSu_learnOwn_52 (by decide) ?_
      refine v_puti C cfSu (k := 15) (by assumption) rfl w408 rfl rfl rfl dSu_learnOwn_54 ?_
      exact v_vret C M dSu_learnOwn_57 (ble rfl) (ble rfl) (fin _ (by unfold ownR; rw [e1]) ho)
    · refine v_if_eq C 51 dSu_learnOwn_27 (by decide) (fun h => absurd h (by decide)) (fun _ => ?_)
      refine v_aload_n C 0 dSu_learnOwn_30 rfl rfl ?_
      refine v_aload_n C 1 dSu_learnOwn_31 rfl rfl ?_
      refine v_cVl C (c_Sp_waysToEnds (kl x) (kD x) _ I2 J2 hC hX.1.2.1 hK.1) mwSp_waysToEnds cfSp (by assumption) w317 w318 w316 rfl rfl (ble rfl) (ble rfl) (ble rfl) (ble rfl) (ble rfl) dSu_learnOwn_32 ?_
      have ew : wsum (I2 sc 6) (I2 (sc + 1 + 1)) (J2 (sc + 7)) X.1 = wsum (I u 8) X.2.1 X.2.2.2 X.1 := by
        rw [h6]
        exact wsum_congr X.1 (fun i hi => ⟨(hX.2 i hi).1, (hX.2 i hi).2.2⟩)
      rw [ew]
      refine v_lconst C 0 dSu_learnOwn_35 (by decide) ?_
      refine v_lcmp C dSu_learnOwn_36 ?_
      refine v_if_le C 44 dSu_learnOwn_37 (by decide) (fun c37 => ?_) (fun c37 => ?_)
      · refine v_iconst C 0 dSu_learnOwn_44 (by decide) ?_
        refine v_puti C cfSu (k := 15) (by assumption) rfl w408 rfl rfl rfl dSu_learnOwn_45 ?_
        refine v_goto C 57 dSu_learnOwn_48 (by decide) ?_
        exact v_vret C M dSu_learnOwn_57 (ble rfl) (ble rfl) (fin _ (by unfold ownR jdg; rw [e1]; show _ = if _ then _ else _; rw [if_pos ((lg_cmp_le _ _).mp c37)]) ho)
      · refine v_iconst C 1 dSu_learnOwn_40 (by decide) ?_
        refine v_goto C 45 dSu_learnOwn_41 (by decide) ?_
        refine v_puti C cfSu (k := 15) (by assumption) rfl w408 rfl rfl rfl dSu_learnOwn_45 ?_
        refine v_goto C 57 dSu_learnOwn_48 (by decide) ?_
        exact v_vret C M dSu_learnOwn_57 (ble rfl) (ble rfl) (fin _ (by unfold ownR jdg; rw [e1]; show _ = if _ then _ else _; rw [if_neg (fun h => c37 ((lg_cmp_le _ _).mpr h))]) ho)
  · refine v_if_eq C 8 dSu_learnOwn_4 (by decide) (fun h => absurd h h9) (fun _ => ?_)
    exact v_vret C M dSu_learnOwn_7 (ble rfl) (ble rfl) ⟨rfl, rfl, Or.inl ⟨h9, rfl, rfl⟩⟩
end
section
theorem xpl_congr {E E2 : Nat → Nat → Int32} {kind ret own : Int32} {f p : Nat} {X : XS} (hp : p < 16) (h : ∀ i k, i < 16 → E2 i k = E i k) : xpl E2 kind ret own f p X = xpl E kind ret own f p X := by
  unfold xpl
  rw [stp_congr hp h]
theorem xpls_congr {E E2 : Nat → Nat → Int32} {kind ret own : Int32} {f : Nat} (h : ∀ i k, i < 16 → E2 i k = E i k) : ∀ (m p : Nat) (X : XS), p + m ≤ 16 → xpls E2 kind ret own f m p X = xpls E kind ret own f m p X
  | 0, _, _, _ => rfl
  | m + 1, p, X, hp => by
    simp only [xpls]
    rw [xpl_congr (by omega) h]
    cases xpl E kind ret own f p X with
    | none => rfl
    | some X2 => exact xpls_congr h m (p + 1) X2 (by omega)
theorem xfs_congr {E E2 : Nat → Nat → Int32} {kind ret own : Int32} {cnt : Nat} (hc : cnt ≤ 16) (h : ∀ i k, i < 16 → E2 i k = E i k) : ∀ (m f : Nat) (X : XS), xfs E2 kind ret own cnt m f X = xfs E kind ret own cnt m f X
  | 0, _, _ => rfl
  | m + 1, f, X => by
    simp only [xfs]
    rw [xpls_congr h cnt 0 X (by omega)]
    cases xpls E kind ret own f cnt 0 X with
    | none => rfl
    | some X2 =>
      show (if _ then xfs E2 kind ret own cnt m (f + 1) X2 else _) = _
      rw [xfs_congr hc h m (f + 1) X2]
theorem xrun_congr {E E2 : Nat → Nat → Int32} {kind ret own : Int32} {cnt : Nat} (hc : cnt ≤ 16) (h : ∀ i k, i < 16 → E2 i k = E i k) : xrun E2 kind ret own cnt = xrun E kind ret own cnt := xfs_congr hc h _ _ _
def brkAt (E : Nat → Nat → Int32) (kind ret : Int32) (n : Nat) (ev : Int32) : Int32 := match xrun E kind ret 0 n with
  | none => -1
  | some X => if wsum ret X.2.1 X.2.2.2 X.1 = 0 then ev else -1
def brkF (E : Nat → Nat → Int32) (kind : Int32) (bs : Nat → Int32) (cn : Nat → Nat) (be : Nat → Int32) : Nat → Nat → Int32 → Int32
  | 0, _, cur => cur
  | m + 1, i, cur => if cur = -1 then brkF E kind bs cn be m (i + 1) (brkAt E kind (bs i) (cn i) (be i)) else cur
def lrbQ (g : GM) (I : MI) (J : MJ) (u sc n k bl : Nat) (cn : Nat → Nat) : Option Value → GM → MI → MJ → Prop := fun v g2 I2 J2 => v = none ∧ g2 = g ∧ ∃ (I1 : MI) (J1 : MJ) (fr : Nat), lrnQ g I J u sc n none g I1 J1 ∧ fr = (if I1 u 11 = 1 then k else bl) ∧ I2 u 17 = brkF (opE I u) (I u 5) (I (u + 13)) cn (I (u + 11)) (k - fr) fr (I u 17) ∧ I2 u 16 = nI k ∧ (∀ q, q ≠ 16 → q ≠ 17 → I2 u q = I1 u q) ∧ (∀ b, b ≠ u → (b < sc ∨ sc + 9 ≤ b) → I2 b = I1 b) ∧ ∀ b, b < sc ∨ sc + 9 ≤ b → J2 b = J1 b
set_option maxHeartbeats 4000000 in
theorem c_Su_learnBreak (l : Launch) (D : va_G) (g : GM) (I : MI) (J : MJ) {u sc n k bl : Nat} {cn : Nat → Nat} (hU : SuAt g u) (hC : SpAt g sc) (hd : sc + 9 ≤ u ∨ u + 30 ≤ sc) (hn : I u 6 = nI n) (hn2 : n ≤ 16) (hk : I u 7 = nI k) (hk2 : k ≤ 16) (hbl : I u 16 = nI bl) (hbl2 : bl ≤ k) (hcn : ∀ i, i < k → I (u + 12) i = nI (cn i) ∧ cn i ≤ 16) : Ct l ySu_learnBreak bSu_learnBreak 5 none (rmN 6 149) D [.ref u, .ref sc] g I J (lrbQ g I J u sc n k bl cn) := by
  refine Ct.of (by decide) (ble rfl) [some (.ref u), some (.ref sc), none, none, none] rfl ?_
  intro x C M
  obtain ⟨u0, hO, hS, u11, u12, u13, ur0, ur1, ur2, ur3, ur4⟩ := id hU
  obtain ⟨sc0, hTc, -, -, -, scr0, -⟩ := id hC
  refine v_aload_n C 0 dSu_learnBreak_0 rfl rfl ?_
  refine v_aload_n C 1 dSu_learnBreak_1 rfl rfl ?_
  refine v_callV C (c_Su_learn (kl x) (kD x) g I J hU hC hd hn hn2) mwSu_learn cfSu (by assumption) w242 w243 w584 rfl rfl (ble rfl) (ble rfl) (ble rfl) (ble rfl) (ble rfl) dSu_learnBreak_2 ?_
  intro v g1 I1 J1 hq
  have hq0 := hq
  obtain ⟨rfl, rfl, hq⟩ := hq
  have f7 : I1 u 7 = nI k := by
    rcases hq with ⟨-, rfl, rfl⟩ | ⟨-, -, q1, -⟩
    · exact hk
    · rw [q1 7 (by decide) (by decide) (by decide) (by decide)]; exact hk
  have f16 : I1 u 16 = nI bl := by
    rcases hq with ⟨-, rfl, rfl⟩ | ⟨-, -, q1, -⟩
    · exact hbl
    · rw [q1 16 (by decide) (by decide) (by decide) (by decide)]; exact hbl
  have f17 : I1 u 17 = I u 17 := by
    rcases hq with ⟨-, rfl, rfl⟩ | ⟨-, -, q1, -⟩
    · rfl
    · exact q1 17 (by decide) (by decide) (by decide) (by decide)
  have f5 : I1 u 5 = I u 5 := by
    rcases hq with ⟨-, rfl, rfl⟩ | ⟨-, -, q1, -⟩
    · rfl
    · exact q1 5 (by decide) (by decide) (by decide) (by decide)
  have fb : ∀ b, u + 11 ≤ b → b < u + 30 → I1 b = I b := by
    intro b b1 b2
    rcases hq with ⟨-, rfl, rfl⟩ | ⟨-, -, -, -, q1, -⟩
    · rfl
    · exact (q1 b (by omega) (by omega) (by omega)).1
  refine v_aload_n C 0 dSu_learnBreak_5 rfl rfl ?_
  refine v_geti C cfSu (k := 11) (by assumption) rfl w401 dSu_learnBreak_6 ?_
  refine v_iconst C 1 dSu_learnBreak_9 (by decide) ?_
  have fin : ∀ (Ic : MI) (Jc : MJ) (fr : Nat) (z2 z3 z4 : Option Value), fr = (if I1 u 11 = 1 then k else bl) → Ic u 17 = brkF (opE I u) (I u 5) (I (u + 13)) cn (I (u + 11)) (k - fr) fr (I u 17) → (∀ q, q ≠ 17 → Ic u q = I1 u q) → (∀ b, b ≠ u → (b < sc ∨ sc + 9 ≤ b) → Ic b = I1 b) → (∀ b, b < sc ∨ sc + 9 ≤ b → Jc b = J1 b) → V x g1 0 0 Ic Jc 93 [some (.ref u), some (.ref sc), z2, z3, z4] [] := by
    intro Ic Jc fr z2 z3 z4 e1 e2 e3 e4 e5
    refine v_aload_n C 0 dSu_learnBreak_93 rfl rfl ?_
    refine v_aload_n C 0 dSu_learnBreak_94 rfl rfl ?_
    refine v_geti C cfSu (k := 7) (by assumption) rfl w395 dSu_learnBreak_95 ?_
    rw [e3 7 (by decide), f7]
    refine v_puti C cfSu (k := 16) (by assumption) rfl w409 rfl rfl rfl dSu_learnBreak_98 ?_
    refine v_vret C M dSu_learnBreak_101 (ble rfl) (ble rfl) ⟨rfl, rfl, I1, J1, fr, hq0, e1, ?_, s2_self _ _ _ _, fun q q1 q2 => ?_, fun b b1 b2 => ?_, e5⟩
    · rw [s2_k (by decide)]; exact e2
    · rw [s2_k q1]; exact e3 q q2
    · rw [s2_off b1]; exact e4 b b1 b2
  have loop : ∀ (m i fr : Nat) (Ic : MI) (Jc : MJ) (z4 : Option Value), i + m = k → fr = (if I1 u 11 = 1 then k else bl) → brkF (opE I u) (I u 5) (I (u + 13)) cn (I (u + 11)) m i (Ic u 17) = brkF (opE I u) (I u 5) (I (u + 13)) cn (I (u + 11)) (k - fr) fr (I u 17) → (∀ q, q ≠ 17 → Ic u q = I1 u q) → (∀ b, b ≠ u → (b < sc ∨ sc + 9 ≤ b) → Ic b = I1 b) → (∀ b, b < sc ∨ sc + 9 ≤ b → Jc b = J1 b) → V x g1 0 0 Ic Jc 27 [some (.ref u), some (.ref sc), none, some (.int (nI i)), z4] [] := by
    intro m
    induction m with
    | zero =>
      intro i fr Ic Jc z4 h1 e1 e2 e3 e4 e5
      refine v_iload_n C 3 dSu_learnBreak_27 rfl rfl ?_
      refine v_aload_n C 0 dSu_learnBreak_28 rfl rfl ?_
      refine v_geti C cfSu (k := 7) (by assumption) rfl w395 dSu_learnBreak_29 ?_
      rw [e3 7 (by decide), f7]
      refine v_icmp_ge C 93 dSu_learnBreak_32 (by decide) (fun _ => ?_) (fun h => absurd (nI_le (by omega) (by omega)) h)
      exact fin Ic Jc fr _ _ _ e1 e2 e3 e4 e5
    | succ m ih =>
      intro i fr Ic Jc z4 h1 e1 e2 e3 e4 e5
      have hi : i < 16 := by omega
      have hic : (nI i).toNatClampNeg = i := nI_clamp (by omega)
      have hii : vp_in (nI i) 16 := vp_in_nI hi (by decide)
      have g12 : Ic (u + 12) = I (u + 12) := by rw [e4 _ (by omega) (by omega), fb _ (by omega) (by omega)]
      have g13 : Ic (u + 13) = I (u + 13) := by rw [e4 _ (by omega) (by omega), fb _ (by omega) (by omega)]
      have g11 : Ic (u + 11) = I (u + 11) := by rw [e4 _ (by omega) (by omega), fb _ (by omega) (by omega)]
      refine v_iload_n C 3 dSu_learnBreak_27 rfl rfl ?_
      refine v_aload_n C 0 dSu_learnBreak_28 rfl rfl ?_
      refine v_geti C cfSu (k := 7) (by assumption) rfl w395 dSu_learnBreak_29 ?_
      rw [e3 7 (by decide), f7]
      refine v_icmp_ge C 93 dSu_learnBreak_32 (by decide) (fun h => absurd h (nI_ge (by omega) (by omega))) (fun _ => ?_)
      refine v_aload_n C 0 dSu_learnBreak_35 rfl rfl ?_
      refine v_geti C cfSu (k := 17) (by assumption) rfl w410 dSu_learnBreak_36 ?_
      refine v_iconst C (-1) dSu_learnBreak_39 (by decide) ?_
      by_cases hz : Ic u 17 = -1
      · rw [hz]
        refine v_icmp_ne C 93 dSu_learnBreak_40 (by decide) (fun h => absurd rfl h) (fun _ => ?_)
        refine v_aload_n C 1 dSu_learnBreak_43 rfl rfl ?_
        refine v_aload_n C 0 dSu_learnBreak_44 rfl rfl ?_
        refine v_aload_n C 0 dSu_learnBreak_45 rfl rfl ?_
        refine v_getr C cfSu (k := 3) (by assumption) rfl (by assumption) w389 dSu_learnBreak_46 ?_
        refine v_iload_n C 3 dSu_learnBreak_49 rfl rfl ?_
        refine v_iald C (by assumption) (by assumption) dSu_learnBreak_50 ?_
        rw [hic, g12, (hcn i (by omega)).1]
        refine v_aload_n C 0 dSu_learnBreak_51 rfl rfl ?_
        refine v_getr C cfSu (k := 4) (by assumption) rfl (by assumption) w390 dSu_learnBreak_52 ?_
        refine v_iload_n C 3 dSu_learnBreak_55 rfl rfl ?_
        refine v_iald C (by assumption) (by assumption) dSu_learnBreak_56 ?_
        rw [hic, g13]
        refine v_iconst C 0 dSu_learnBreak_57 (by decide) ?_
        refine v_callV C (c_Sp_explore (kl x) (kD x) g1 Ic Jc (I (u + 13) i) 0 hC hU (hcn i (by omega)).2 (Or.inl rfl)) mwSp_explore cfSp (by assumption) w246 w247 w245 rfl rfl (ble rfl) (ble rfl) (ble rfl) (ble rfl) (ble rfl) dSu_learnBreak_58 ?_
        rintro v g2 I2 J2 ⟨rfl, hr⟩
        have eX : xrun (opE Ic u) (Ic u 5) (I (u + 13) i) 0 (cn i) = xrun (opE I u) (I u 5) (I (u + 13) i) 0 (cn i) := by
          rw [e3 5 (by decide), f5]
          exact xrun_congr (hcn i (by omega)).2 (fun q r hq => by show Ic _ _ = I _ _; rw [e4 _ (by omega) (by omega), fb _ (by omega) (by omega)])
        rw [eX] at hr
        have next : ∀ (I5 : MI) (z : Option Value), I5 u 17 = brkAt (opE I u) (I u 5) (I (u + 13) i) (cn i) (I (u + 11) i) → (∀ q, q ≠ 17 → I5 u q = I1 u q) → (∀ b, b ≠ u → (b < sc ∨ sc + 9 ≤ b) → I5 b = I1 b) → (∀ b, b < sc ∨ sc + 9 ≤ b → J2 b = J1 b) → V x g2 0 0 I5 J2 87 [some (.ref u), some (.ref sc), none, some (.int (nI i)), z] [] := by
          intro I5 z q1 q2 q3 q4
          refine v_iinc C (nI (i + 1)) dSu_learnBreak_87 rfl (nI_1 i) (ble rfl) rfl ?_
          refine v_goto C 27 dSu_learnBreak_90 (by decide) ?_
          refine ih (i + 1) fr I5 J2 z (by omega) e1 ?_ q2 q3 q4
          rw [← e2, q1, hz]
          simp only [brkF, if_pos]
        rcases hr with ⟨r1, rfl, ho⟩ | ⟨X, r1, rfl, hX, hK, h4, h5, h6, h7, ho⟩
        · refine v_istore C dSu_learnBreak_61 (ble rfl) rfl ?_
          refine v_iload C dSu_learnBreak_63 rfl ?_
          refine v_if_eq C 87 dSu_learnBreak_65 (by decide) (fun _ => ?_) (fun h => absurd rfl h)
          have ou : I2 u = Ic u := ho.1 u (by omega)
          exact next I2 _ (by rw [ou, hz]; unfold brkAt; rw [r1]) (fun q hq => by rw [ou]; exact e3 q hq) (fun b b1 b2 => by rw [ho.1 b b2]; exact e4 b b1 b2) (fun b b2 => by rw [ho.2 b b2]; exact e5 b b2)
        · have ou : I2 u = Ic u := ho.1 u (by omega)
          have j2 : ∀ b, b < sc ∨ sc + 9 ≤ b → J2 b = J1 b := fun b b2 => by rw [ho.2 b b2]; exact e5 b b2
          refine v_istore C dSu_learnBreak_61 (ble rfl) rfl ?_
          refine v_iload C dSu_learnBreak_63 rfl ?_
          refine v_if_eq C 87 dSu_learnBreak_65 (by decide) (fun h => absurd h (by decide)) (fun _ => ?_)
          refine v_aload_n C 1 dSu_learnBreak_68 rfl rfl ?_
          refine v_cVl C (c_Sp_waysToEnds (kl x) (kD x) _ I2 J2 hC hX.1.2.1 hK.1) mwSp_waysToEnds cfSp (by assumption) w317 w318 w316 rfl rfl (ble rfl) (ble rfl) (ble rfl) (ble rfl) (ble rfl) dSu_learnBreak_69 ?_
          have ew : wsum (I2 sc 6) (I2 (sc + 1 + 1)) (J2 (sc + 7)) X.1 = wsum (I (u + 13) i) X.2.1 X.2.2.2 X.1 := by
            rw [h6]
            exact wsum_congr X.1 (fun i hi => ⟨(hX.2 i hi).1, (hX.2 i hi).2.2⟩)
          rw [ew]
          refine v_lconst C 0 dSu_learnBreak_72 (by decide) ?_
          refine v_lcmp C dSu_learnBreak_73 ?_
          refine v_if_ne C 87 dSu_learnBreak_74 (by decide) (fun c74 => ?_) (fun c74 => ?_)
          · refine next I2 _ ?_ (fun q hq => by rw [ou]; exact e3 q hq) (fun b b1 b2 => by rw [ho.1 b b2]; exact e4 b b1 b2) j2
            rw [ou, hz]
            unfold brkAt
            rw [r1]
            show _ = if _ then _ else _
            rw [if_neg (fun h => c74 (lcmpE.mpr h))]
          · refine v_aload_n C 0 dSu_learnBreak_77 rfl rfl ?_
            refine v_aload_n C 0 dSu_learnBreak_78 rfl rfl ?_
            refine v_getr C cfSu (k := 2) (by assumption) rfl (by assumption) w388 dSu_learnBreak_79 ?_
            refine v_iload_n C 3 dSu_learnBreak_82 rfl rfl ?_
            refine v_iald C (by assumption) (by assumption) dSu_learnBreak_83 ?_
            have g11b : I2 (u + 11) = I (u + 11) := by rw [ho.1 _ (by omega)]; exact g11
            rw [hic, g11b]
            refine v_puti C cfSu (k := 17) (by assumption) rfl w410 rfl rfl rfl dSu_learnBreak_84 ?_
            refine next _ _ ?_ (fun q hq => by rw [s2_k hq, ou]; exact e3 q hq) (fun b b1 b2 => by rw [s2_off b1, ho.1 b b2]; exact e4 b b1 b2) j2
            rw [s2_self]
            unfold brkAt
            rw [r1]
            show _ = if _ then _ else _
            rw [if_pos (lcmpE.mp c74)]
      · refine v_icmp_ne C 93 dSu_learnBreak_40 (by decide) (fun _ => ?_) (fun h => absurd h hz)
        refine fin Ic Jc fr _ _ _ e1 ?_ e3 e4 e5
        rw [← e2]
        simp only [brkF, if_neg hz]
  refine v_icmp_ne C 20 dSu_learnBreak_10 (by decide) (fun c10 => ?_) (fun c10 => ?_)
  · refine v_aload_n C 0 dSu_learnBreak_20 rfl rfl ?_
    refine v_geti C cfSu (k := 16) (by assumption) rfl w409 dSu_learnBreak_21 ?_
    rw [f16]
    refine v_istore_n C 2 dSu_learnBreak_24 rfl (ble rfl) rfl ?_
    refine v_iload_n C 2 dSu_learnBreak_25 rfl rfl ?_
    refine v_istore_n C 3 dSu_learnBreak_26 rfl (ble rfl) rfl ?_
    refine V.drop (lv2 := [some (.ref u), some (.ref sc), none, some (.int (nI bl)), none]) ?_ ⟨rfl, rfl, rfl, trivial⟩
    exact loop (k - bl) bl bl I1 J1 _ (by omega) (by rw [if_neg c10]) (by rw [f17]) (fun _ _ => rfl) (fun _ _ _ => rfl) (fun _ _ => rfl)
  · refine v_aload_n C 0 dSu_learnBreak_13 rfl rfl ?_
    refine v_geti C cfSu (k := 7) (by assumption) rfl w395 dSu_learnBreak_14 ?_
    rw [f7]
    refine v_goto C 24 dSu_learnBreak_17 (by decide) ?_
    refine v_istore_n C 2 dSu_learnBreak_24 rfl (ble rfl) rfl ?_
    refine v_iload_n C 2 dSu_learnBreak_25 rfl rfl ?_
    refine v_istore_n C 3 dSu_learnBreak_26 rfl (ble rfl) rfl ?_
    refine V.drop (lv2 := [some (.ref u), some (.ref sc), none, some (.int (nI k)), none]) ?_ ⟨rfl, rfl, rfl, trivial⟩
    exact loop 0 k k I1 J1 _ (by omega) (by rw [if_pos c10]) (by rw [f17, Nat.sub_self]) (fun _ _ => rfl) (fun _ _ _ => rfl) (fun _ _ => rfl)
end
section
section VN
variable {x : KX} {cc : ByteArray} {own : String} {nL : Nat} {rm : Room} {g : GM} {cells slots : Nat} {I : MI} {J : MJ} {pc : Nat} {lv : List (Option Value)} {st : List Value} {Post : Option Value → GM → MI → MJ → Prop}
/-- a nest mate's private constructor -/
theorem v_callN (C : Cx x cc own nL rm) {y : MethodName} {cc2 : ByteArray} {nL2 n idx b : Nat} {host : String} {rm2 : Room} {As stk : List Value} (hct : Ct (kl x) y cc2 nL2 none rm2 (kD x) (.ref b :: As) g I J Post) (hm : MW y cc2 nL2 none n) (hy : y.name = "<init>") (hi : Cond.instanceMethod y ∈ TB) (hl : Cond.methodLinkNest own idx y host ∈ knest) (hn : As.length = n) (hst : stk = As.reverse ++ .ref b :: st) (hW : (st.map fun v => v.category).sum ≤ 8) (hf : rm2.frames + 1 ≤ rm.frames) (hlo : 8 + (nL2 + 11) + rm2.locals ≤ rm.locals) (hc2 : cells + rm2.cells ≤ rm.cells) (hs2 : slots + rm2.slots ≤ rm.slots) (d : decode cc pc = .ok (.invokespecial idx, 3))
    (k : ∀ (v : Option Value) (g2 : GM) (I2 : MI) (J2 : MJ), Post v g2 I2 J2 → V x g2 (cells + rm2.cells) (slots + rm2.slots) I2 J2 (pc + 3) lv (v.toList ++ st)) : V x g cells slots I J pc lv stk := fun H locs ls a1 a2 a3 a4 a5 => by
  have hR := C.2.2.2.2.2.2.2.1
  obtain ⟨m1, m2, m3, m4⟩ := id hm
  have hN := C.2.2.2.2.1.2.2.2 _ hl
  refine call_go C (Qa := QP (kD x) (AA g) Post) (As := (Value.ref b :: As).toArray) a1 a3 a4 a5 (va_runIN (Ts := TB) (As := As) (b := b) (host := host) ⟨C.1, C.2.1, C.2.2.2.2.2.1, C.2.2.1, C.2.2.2.1⟩ hct ⟨⟨⟨rfl, rfl, by rw [hR]; exact hf, by rw [hR]; exact hlo, ws_ok C m1, List.mem_cons_self⟩, C.tb m1, C.tb m2, m3, fun sig h => by rw [h] at m4; exact (Option.some.inj m4).symm, va_Nw.use rfl hN⟩, hy, C.tb hi⟩ ⟨PP_blind, PP_at C a1 a2 _⟩ rfl hn (a5.1.trans C.2.2.2.2.2.2.1) hst (by simpa using hW) d ⟨by rw [hR]; exact hc2, by rw [hR]; exact hs2⟩) k
end VN
abbrev rmA (f lo c s : Nat) : Room := { frames := f, cells := c, slots := s, locals := lo }
/-- what stood before b0 stands -/
def oldG (b0 : Nat) (g : GM) (I : MI) (J : MJ) (g2 : GM) (I2 : MI) (J2 : MJ) : Prop := (∀ b, b < b0 → g2.1 b = g.1 b ∧ g2.2.1 b = g.2.1 b) ∧ (∀ b, b < b0 → I2 b = I b) ∧ ∀ b, b < b0 → J2 b = J b
theorem c_Op_init (l : Launch) (D : va_G) (g : GM) (I : MI) (J : MJ) {a : Nat} : Ct l yOp_init bOp_init 1 none (rmN 1 12) D [.ref a] g I J (PF none g I J) := by
  refine Ct.of (by decide) (ble rfl) [some (.ref a)] rfl ?_
  intro x C M
  refine v_aload_n C 0 dOp_init_0 rfl rfl ?_
  refine v_objI C w351 (ble rfl) (ble rfl) dOp_init_1 ?_
  exact v_vret C M dOp_init_4 (ble rfl) (ble rfl) ⟨rfl, rfl, rfl, rfl⟩
theorem c_St_init (l : Launch) (D : va_G) (g : GM) (I : MI) (J : MJ) {a : Nat} : Ct l ySt_init bSt_init 1 none (rmN 1 12) D [.ref a] g I J (PF none g I J) := by
  refine Ct.of (by decide) (ble rfl) [some (.ref a)] rfl ?_
  intro x C M
  refine v_aload_n C 0 dSt_init_0 rfl rfl ?_
  refine v_objI C w64 (ble rfl) (ble rfl) dSt_init_1 ?_
  exact v_vret C M dSt_init_4 (ble rfl) (ble rfl) ⟨rfl, rfl, rfl, rfl⟩
theorem hdOp : ∀ k, k < 8 → defaultValue (tyOp k) = fv (fun _ _ => none) (fun _ _ => 0) (fun _ _ => 0) 0 ((fkL 0).getD k 0) k := by decide +kernel
theorem hdSp : ∀ k, k < 8 → defaultValue (tySp k) = fv (fun _ _ => none) (fun _ _ => 0) (fun _ _ => 0) 0 ((fkL 1).getD k 0) k := by decide +kernel
theorem hdSt : ∀ k, k < 3 → defaultValue (tySt k) = fv (fun _ _ => none) (fun _ _ => 0) (fun _ _ => 0) 0 ((fkL 2).getD k 0) k := by decide +kernel
theorem hdSu : ∀ k, k < 18 → defaultValue (tySu k) = fv (fun _ _ => none) (fun _ _ => 0) (fun _ _ => 0) 0 ((fkL 3).getD k 0) k := by decide +kernel
theorem hdTa : ∀ k, k < 5 → defaultValue (tyTa k) = fv (fun _ _ => none) (fun _ _ => 0) (fun _ _ => 0) 0 ((fkL 4).getD k 0) k := by decide +kernel
theorem hdLH : ∀ k, k < 15 → defaultValue (tyLH k) = fv (fun _ _ => none) (fun _ _ => 0) (fun _ _ => 0) 0 ((fkL 5).getD k 0) k := by decide +kernel
theorem hdMo : ∀ k, k < 35 → defaultValue (tyMo k) = fv (fun _ _ => none) (fun _ _ => 0) (fun _ _ => 0) 0 ((fkL 6).getD k 0) k := by decide +kernel
theorem c_Ta_init (l : Launch) (D : va_G) (g : GM) (I : MI) (J : MJ) {t : Nat} (t0 : g.1 t = (4, 0)) (hz : g.2.2 = t + 1) : Ct l yTa_init bTa_init 1 none (rmA 1 12 4 7024) D [.ref t] g I J (fun v g2 I2 J2 => v = none ∧ TaAt g2 t ∧ g2.2.2 = t + 5 ∧ oldG t g I J g2 I2 J2) := by
  obtain ⟨sh, r, z⟩ := g
  have hz : z = t + 1 := hz
  subst hz
  have t0 : sh t = (4, 0) := t0
  refine Ct.of (by decide) (ble rfl) [some (.ref t)] rfl ?_
  intro x C M
  refine v_aload_n C 0 dTa_init_0 rfl rfl ?_
  refine v_objI C w36 (ble rfl) (ble rfl) dTa_init_1 ?_
  refine v_aload_n C 0 dTa_init_4 rfl rfl ?_
  refine v_sipush C 2000 dTa_init_5 (by decide) ?_
  refine v_newi C 2000 (by decide) (by decide) (by decide) (ble rfl) (ble rfl) dTa_init_8 ?_
  refine v_putr C cfTa (k := 0) (n := 0) (by simp only [g_sh]; (repeat rw [if_neg (by omega)]); assumption) rfl w37 rfl M.2.2.2.2.2 rfl rfl rfl dTa_init_10 ?_
  refine v_aload_n C 0 dTa_init_13 rfl rfl ?_
  refine v_sipush C 2000 dTa_init_14 (by decide) ?_
  refine v_newl C 2000 (by decide) (by decide) (by decide) (ble rfl) (ble rfl) dTa_init_17 ?_
  refine v_putr C cfTa (k := 1) (n := 0) (by simp only [g_sh]; (repeat rw [if_neg (by omega)]); assumption) rfl w39 rfl M.2.2.2.2.2 rfl rfl rfl dTa_init_19 ?_
  refine v_aload_n C 0 dTa_init_22 rfl rfl ?_
  refine v_sipush C 1024 dTa_init_23 (by decide) ?_
  refine v_newi C 1024 (by decide) (by decide) (by decide) (ble rfl) (ble rfl) dTa_init_26 ?_
  refine v_putr C cfTa (k := 2) (n := 0) (by simp only [g_sh]; (repeat rw [if_neg (by omega)]); assumption) rfl w41 rfl M.2.2.2.2.2 rfl rfl rfl dTa_init_28 ?_
  refine v_aload_n C 0 dTa_init_31 rfl rfl ?_
  refine v_sipush C 2000 dTa_init_32 (by decide) ?_
  refine v_newi C 2000 (by decide) (by decide) (by decide) (ble rfl) (ble rfl) dTa_init_35 ?_
  refine v_putr C cfTa (k := 3) (n := 0) (by simp only [g_sh]; (repeat rw [if_neg (by omega)]); assumption) rfl w42 rfl M.2.2.2.2.2 rfl rfl rfl dTa_init_37 ?_
  refine v_vret C M dTa_init_40 (ble rfl) (ble rfl) ⟨rfl, ?_, rfl, fun b hb => ?_, fun b hb => ?_, fun b hb => ?_⟩
  · refine ⟨?_, ?_, ?_, ?_, ?_, ?_, ?_, ?_, ?_⟩ <;> (simp only [g_sh]; (repeat (first | rw [if_neg (by omega)] | rw [if_pos (by omega)] | rw [s2_self] | rw [s2_a (by omega)] | rw [s2_k (by omega)])); try (first | rfl | assumption))
  · constructor
    · simp only [g_sh]
      repeat rw [if_neg (by omega)]
    · simp only [g_sh]
      repeat rw [s2_off (by omega)]
      repeat rw [if_neg (by omega)]
      repeat rw [s2_off (by omega)]
  · simp only [z_m, g_sh]
    repeat rw [if_neg (by omega)]
  · simp only [z_m, g_sh]
    repeat rw [if_neg (by omega)]
/-- the shapes and references from lo to hi are the same -/
def samG (lo hi : Nat) (g g2 : GM) : Prop := ∀ b, lo ≤ b → b < hi → g2.1 b = g.1 b ∧ g2.2.1 b = g.2.1 b
theorem TaAt.mono {g g2 : GM} {t : Nat} (h : TaAt g t) (hs : samG t (t + 5) g g2) : TaAt g2 t := by
  unfold TaAt
  rw [(hs t (by omega) (by omega)).1, (hs t (by omega) (by omega)).2, (hs (t + 1) (by omega) (by omega)).1, (hs (t + 2) (by omega) (by omega)).1, (hs (t + 3) (by omega) (by omega)).1, (hs (t + 4) (by omega) (by omega)).1]
  exact h
theorem samG.sub {lo hi lo2 hi2 : Nat} {g g2 : GM} (h : samG lo hi g g2) (h1 : lo ≤ lo2) (h2 : hi2 ≤ hi) : samG lo2 hi2 g g2 := fun b q1 q2 => h b (by omega) (by omega)
theorem SpAt.mono {g g2 : GM} {s : Nat} (h : SpAt g s) (hs : samG s (s + 9) g g2) : SpAt g2 s := by
  unfold SpAt
  rw [(hs s (by omega) (by omega)).1, (hs s (by omega) (by omega)).2, (hs (s + 6) (by omega) (by omega)).1, (hs (s + 7) (by omega) (by omega)).1, (hs (s + 8) (by omega) (by omega)).1]
  exact ⟨h.1, h.2.1.mono (hs.sub (by omega) (by omega)), h.2.2⟩
theorem OpsAt.mono {g g2 : GM} {ao ob : Nat} (h : OpsAt g ao ob) (h1 : g2.1 ao = g.1 ao ∧ g2.2.1 ao = g.2.1 ao) (h2 : ∀ i, i < 16 → g2.1 (ob + i) = g.1 (ob + i)) : OpsAt g2 ao ob := by
  refine ⟨by rw [h1.1]; exact h.1, fun i hi => ?_⟩
  rw [h1.2, h2 i hi]
  exact h.2 i hi
theorem SuAt.mono {g g2 : GM} {u : Nat} (h : SuAt g u) (hs : samG u (u + 30) g g2) : SuAt g2 u := by
  unfold SuAt
  rw [(hs u (by omega) (by omega)).1, (hs u (by omega) (by omega)).2, (hs (u + 11) (by omega) (by omega)).1, (hs (u + 12) (by omega) (by omega)).1, (hs (u + 13) (by omega) (by omega)).1]
  exact ⟨h.1, h.2.1.mono (hs (u + 1) (by omega) (by omega)) (fun i hi => (hs (u + 14 + i) (by omega) (by omega)).1), h.2.2.1.mono (hs.sub (by omega) (by omega)), h.2.2.2⟩
theorem c_Sp_init (l : Launch) (D : va_G) (g : GM) (I : MI) (J : MJ) {s : Nat} (s0 : g.1 s = (1, 0)) (hz : g.2.2 = s + 1) : Ct l ySp_init bSp_init 1 none (rmA 2 32 8 11032) D [.ref s] g I J (fun v g2 I2 J2 => v = none ∧ SpAt g2 s ∧ g2.2.2 = s + 9 ∧ oldG s g I J g2 I2 J2) := by
  obtain ⟨sh, r, z⟩ := g
  have hz : z = s + 1 := hz
  subst hz
  have s0 : sh s = (1, 0) := s0
  refine Ct.of (by decide) (ble rfl) [some (.ref s)] rfl ?_
  intro x C M
  refine v_aload_n C 0 dSp_init_0 rfl rfl ?_
  refine v_objI C w30 (ble rfl) (ble rfl) dSp_init_1 ?_
  refine v_aload_n C 0 dSp_init_4 rfl rfl ?_
  refine v_new C cfTa hdTa w31 w32 w3 (ble rfl) (ble rfl) dSp_init_5 ?_
  refine v_dup C dSp_init_8 rfl ?_
  refine v_callN C (host := "LinearHistories") (c_Ta_init (kl x) (kD x) _ _ _ (by (simp only [g_sh]; (repeat (first | rw [if_neg (by omega)] | rw [if_pos (by omega)] | rw [s2_self] | rw [s2_a (by omega)] | rw [s2_k (by omega)])); try (first | rfl | assumption))) rfl) mwTa_init rfl w34 (by decide +kernel) rfl rfl (ble rfl) (ble rfl) (ble rfl) (ble rfl) (ble rfl) dSp_init_9 ?_
  rintro v ⟨sh2, r2, z2⟩ I2 J2 ⟨rfl, hT, hz2, o1, o2, o3⟩
  have hz2 : z2 = s + 6 := hz2
  subst hz2
  have s02 : sh2 s = (1, 0) := by
    have h := (o1 s (by show s < s + 1; omega)).1
    refine Eq.trans h ?_
    (simp only [g_sh]; (repeat (first | rw [if_neg (by omega)] | rw [if_pos (by omega)] | rw [s2_self] | rw [s2_a (by omega)] | rw [s2_k (by omega)])); try (first | rfl | assumption))
  refine v_putr C cfSp (k := 0) (n := 0) (by simp only [g_sh]; (repeat rw [if_neg (by omega)]); assumption) rfl w79 rfl M.2.2.2.2.2 rfl rfl rfl dSp_init_12 ?_
  refine v_aload_n C 0 dSp_init_15 rfl rfl ?_
  refine v_new C cfSt hdSt w59 w60 w4 (ble rfl) (ble rfl) dSp_init_16 ?_
  refine v_dup C dSp_init_19 rfl ?_
  refine v_callN C (host := "LinearHistories") (c_St_init (kl x) (kD x) _ _ _) mwSt_init rfl w62 (by decide +kernel) rfl rfl (ble rfl) (ble rfl) (ble rfl) (ble rfl) (ble rfl) dSp_init_20 ?_
  rintro v g3 I3 J3 ⟨rfl, rfl, rfl, rfl⟩
  refine v_putr C cfSp (k := 1) (n := 0) (by simp only [g_sh]; (repeat rw [if_neg (by omega)]); assumption) rfl w81 rfl M.2.2.2.2.2 rfl rfl rfl dSp_init_23 ?_
  refine v_aload_n C 0 dSp_init_26 rfl rfl ?_
  refine v_sipush C 2000 dSp_init_27 (by decide) ?_
  refine v_newl C 2000 (by decide) (by decide) (by decide) (ble rfl) (ble rfl) dSp_init_30 ?_
  refine v_putr C cfSp (k := 2) (n := 0) (by simp only [g_sh]; (repeat rw [if_neg (by omega)]); assumption) rfl w83 rfl M.2.2.2.2.2 rfl rfl rfl dSp_init_32 ?_
  refine v_aload_n C 0 dSp_init_35 rfl rfl ?_
  refine v_sipush C 2000 dSp_init_36 (by decide) ?_
  refine v_newz C 2000 (by decide) (by decide) (by decide) (ble rfl) (ble rfl) dSp_init_39 ?_
  refine v_putr C cfSp (k := 3) (n := 0) (by simp only [g_sh]; (repeat rw [if_neg (by omega)]); assumption) rfl w84 rfl M.2.2.2.2.2 rfl rfl rfl dSp_init_41 ?_
  refine v_vret C M dSp_init_44 (ble rfl) (ble rfl) ⟨rfl, ⟨?_, ?_, ?_, ?_, ?_, ?_, ?_, ?_, ?_⟩, rfl, fun b hb => ?_, fun b hb => ?_, fun b hb => ?_⟩
  · (simp only [g_sh]; (repeat (first | rw [if_neg (by omega)] | rw [if_pos (by omega)] | rw [s2_self] | rw [s2_a (by omega)] | rw [s2_k (by omega)])); try (first | rfl | assumption))
  · refine hT.mono (fun b b1 b2 => ⟨?_, ?_⟩)
    · (simp only [g_sh]; (repeat (first | rw [if_neg (by omega)] | rw [if_pos (by omega)] | rw [s2_self] | rw [s2_a (by omega)] | rw [s2_k (by omega)])); try (first | rfl | assumption))
    · simp only [g_sh]
      repeat (first | rw [if_neg (by omega)] | rw [s2_off (by omega)])
  · (simp only [g_sh]; (repeat (first | rw [if_neg (by omega)] | rw [if_pos (by omega)] | rw [s2_self] | rw [s2_a (by omega)] | rw [s2_k (by omega)])); try (first | rfl | assumption))
  · (simp only [g_sh]; (repeat (first | rw [if_neg (by omega)] | rw [if_pos (by omega)] | rw [s2_self] | rw [s2_a (by omega)] | rw [s2_k (by omega)])); try (first | rfl | assumption))
  · (simp only [g_sh]; (repeat (first | rw [if_neg (by omega)] | rw [if_pos (by omega)] | rw [s2_self] | rw [s2_a (by omega)] | rw [s2_k (by omega)])); try (first | rfl | assumption))
  · (simp only [g_sh]; (repeat (first | rw [if_neg (by omega)] | rw [if_pos (by omega)] | rw [s2_self] | rw [s2_a (by omega)] | rw [s2_k (by omega)])); try (first | rfl | assumption))
  · (simp only [g_sh]; (repeat (first | rw [if_neg (by omega)] | rw [if_pos (by omega)] | rw [s2_self] | rw [s2_a (by omega)] | rw [s2_k (by omega)])); try (first | rfl | assumption))
  · (simp only [g_sh]; (repeat (first | rw [if_neg (by omega)] | rw [if_pos (by omega)] | rw [s2_self] | rw [s2_a (by omega)] | rw [s2_k (by omega)])); try (first | rfl | assumption))
  · (simp only [g_sh]; (repeat (first | rw [if_neg (by omega)] | rw [if_pos (by omega)] | rw [s2_self] | rw [s2_a (by omega)] | rw [s2_k (by omega)])); try (first | rfl | assumption))
  · have h := o1 b (by show b < s + 1; omega)
    constructor
    · refine Eq.trans ?_ (h.1.trans ?_)
      · (simp only [g_sh]; (repeat (first | rw [if_neg (by omega)] | rw [if_pos (by omega)] | rw [s2_self] | rw [s2_a (by omega)] | rw [s2_k (by omega)])); try (first | rfl | assumption))
      · (simp only [g_sh]; (repeat (first | rw [if_neg (by omega)] | rw [if_pos (by omega)] | rw [s2_self] | rw [s2_a (by omega)] | rw [s2_k (by omega)])); try (first | rfl | assumption))
    · refine Eq.trans ?_ (h.2.trans ?_)
      · simp only [g_sh]
        repeat (first | rw [if_neg (by omega)] | rw [s2_off (by omega)])
      · simp only [g_sh]
        repeat (first | rw [if_neg (by omega)] | rw [s2_off (by omega)])
  · refine Eq.trans ?_ ((o2 b (by show b < s + 1; omega)).trans ?_)
    · simp only [z_m, g_sh]
      repeat rw [if_neg (by omega)]
    · simp only [z_m, g_sh]
      repeat rw [if_neg (by omega)]
  · refine Eq.trans ?_ ((o3 b (by show b < s + 1; omega)).trans ?_)
    · simp only [z_m, g_sh]
      repeat rw [if_neg (by omega)]
    · simp only [z_m, g_sh]
      repeat rw [if_neg (by omega)]
end
section
theorem c_Su_init (l : Launch) (D : va_G) (g : GM) (I : MI) (J : MJ) {u : Nat} (u0 : g.1 u = (3, 0)) (hz : g.2.2 = u + 1) : Ct l ySu_init bSu_init 2 none (rmA 3 52 29 11232) D [.ref u] g I J (fun v g2 I2 J2 => v = none ∧ SuAt g2 u ∧ g2.2.2 = u + 30 ∧ oldG u g I J g2 I2 J2) := by
  obtain ⟨sh, r, z⟩ := g
  have hz : z = u + 1 := hz
  subst hz
  have u0 : sh u = (3, 0) := u0
  refine Ct.of (by decide) (ble rfl) [some (.ref u), none] rfl ?_
  intro x C M
  refine v_aload_n C 0 dSu_init_0 rfl rfl ?_
  refine v_objI C w342 (ble rfl) (ble rfl) dSu_init_1 ?_
  refine v_aload_n C 0 dSu_init_4 rfl rfl ?_
  refine v_bipush C 16 dSu_init_5 (by decide) ?_
  refine v_newp C 16 w343 (by decide) (by decide) (by decide) (ble rfl) (ble rfl) dSu_init_7 ?_
  refine v_putr C cfSu (k := 0) (n := 0) (by simp only [g_sh]; (repeat rw [if_neg (by omega)]); assumption) rfl w384 rfl M.2.2.2.2.2 rfl rfl rfl dSu_init_10 ?_
  refine v_aload_n C 0 dSu_init_13 rfl rfl ?_
  refine v_new C cfSp hdSp w345 w26 w2 (ble rfl) (ble rfl) dSu_init_14 ?_
  refine v_dup C dSu_init_17 rfl ?_
  refine v_callN C (host := "LinearHistories") (c_Sp_init (kl x) (kD x) _ _ _ (by (simp only [g_sh]; (repeat (first | rw [if_neg (by omega)] | rw [if_pos (by omega)] | rw [s2_self] | rw [s2_a (by omega)] | rw [s2_k (by omega)])); try (first | rfl | assumption))) rfl) mwSp_init rfl w28 (by decide +kernel) rfl rfl (ble rfl) (ble rfl) (ble rfl) (ble rfl) (ble rfl) dSu_init_18 ?_
  rintro v ⟨sh2, r2, z2⟩ I2 J2 ⟨rfl, hS, hz2, o1, o2, o3⟩
  have hz2 : z2 = u + 11 := hz2
  subst hz2
  have hS : SpAt (sh2, r2, u + 11) (u + 2) := hS
  have u02 : sh2 u = (3, 0) := by
    have h := (o1 u (by show u < u + 1 + 1; omega)).1
    refine Eq.trans h ?_
    (simp only [g_sh]; (repeat (first | rw [if_neg (by omega)] | rw [if_pos (by omega)] | rw [s2_self] | rw [s2_a (by omega)] | rw [s2_k (by omega)])); try (first | rfl | assumption))
  have u12 : sh2 (u + 1) = (13, 16) := by
    have h := (o1 (u + 1) (by show u + 1 < u + 1 + 1; omega)).1
    refine Eq.trans h ?_
    (simp only [g_sh]; (repeat (first | rw [if_neg (by omega)] | rw [if_pos (by omega)] | rw [s2_self] | rw [s2_a (by omega)] | rw [s2_k (by omega)])); try (first | rfl | assumption))
  have r02 : r2 u 0 = some (u + 1) := by
    have h := congrFun (o1 u (by show u < u + 1 + 1; omega)).2 0
    refine Eq.trans h ?_
    (simp only [g_sh]; (repeat (first | rw [if_neg (by omega)] | rw [if_pos (by omega)] | rw [s2_self] | rw [s2_a (by omega)] | rw [s2_k (by omega)])); try (first | rfl | assumption))
  refine v_putr C cfSu (k := 1) (n := 0) (by simp only [g_sh]; (repeat rw [if_neg (by omega)]); assumption) rfl w386 rfl M.2.2.2.2.2 rfl rfl rfl dSu_init_21 ?_
  refine v_aload_n C 0 dSu_init_24 rfl rfl ?_
  refine v_bipush C 16 dSu_init_25 (by decide) ?_
  refine v_newi C 16 (by decide) (by decide) (by decide) (ble rfl) (ble rfl) dSu_init_27 ?_
  refine v_putr C cfSu (k := 2) (n := 0) (by simp only [g_sh]; (repeat rw [if_neg (by omega)]); assumption) rfl w388 rfl M.2.2.2.2.2 rfl rfl rfl dSu_init_29 ?_
  refine v_aload_n C 0 dSu_init_32 rfl rfl ?_
  refine v_bipush C 16 dSu_init_33 (by decide) ?_
  refine v_newi C 16 (by decide) (by decide) (by decide) (ble rfl) (ble rfl) dSu_init_35 ?_
  refine v_putr C cfSu (k := 3) (n := 0) (by simp only [g_sh]; (repeat rw [if_neg (by omega)]); assumption) rfl w389 rfl M.2.2.2.2.2 rfl rfl rfl dSu_init_37 ?_
  refine v_aload_n C 0 dSu_init_40 rfl rfl ?_
  refine v_bipush C 16 dSu_init_41 (by decide) ?_
  refine v_newi C 16 (by decide) (by decide) (by decide) (ble rfl) (ble rfl) dSu_init_43 ?_
  refine v_putr C cfSu (k := 4) (n := 0) (by simp only [g_sh]; (repeat rw [if_neg (by omega)]); assumption) rfl w390 rfl M.2.2.2.2.2 rfl rfl rfl dSu_init_45 ?_
  refine v_iconst C 0 dSu_init_48 (by decide) ?_
  refine v_istore_n C 1 dSu_init_49 rfl (ble rfl) rfl ?_
  have loop : ∀ (m i : Nat) (g : GM) (Ic : MI) (Jc : MJ), i + m = 16 → g.2.2 = u + 14 + i → g.1 u = (3, 0) → g.1 (u + 1) = (13, 16) → SpAt g (u + 2) → g.1 (u + 11) = (10, 16) → g.1 (u + 12) = (10, 16) → g.1 (u + 13) = (10, 16) → g.2.1 u 0 = some (u + 1) → g.2.1 u 1 = some (u + 2) → g.2.1 u 2 = some (u + 11) → g.2.1 u 3 = some (u + 12) → g.2.1 u 4 = some (u + 13) → (∀ j, j < i → g.2.1 (u + 1) j = some (u + 14 + j) ∧ g.1 (u + 14 + j) = (0, 0)) → oldG u (sh, r, u + 1) I J g Ic Jc → V x g (13 + i) (11104 + 8 * i) Ic Jc 50 [some (.ref u), some (.int (nI i))] [] := by
    intro m
    induction m with
    | zero =>
      intro i g Ic Jc h1 a1 a2 a3 a4 a5 a6 a7 a8 a9 a10 a11 a12 a13 a14
      refine v_iload_n C 1 dSu_init_50 rfl rfl ?_
      refine v_bipush C 16 dSu_init_51 (by decide) ?_
      refine v_icmp_ge C 75 dSu_init_53 (by decide) (fun _ => ?_) (fun h => absurd (nI_le (a := 16) (by omega) (by omega)) h)
      exact v_vret C M dSu_init_75 (show 13 + i ≤ 29 by omega) (show 11104 + 8 * i ≤ 11232 by omega) ⟨rfl, ⟨a2, ⟨a3, fun j hj => a13 j (by omega)⟩, a4, a5, a6, a7, a8, a9, a10, a11, a12⟩, by rw [a1]; omega, a14⟩
    | succ m ih =>
      intro i g Ic Jc h1 a1 a2 a3 a4 a5 a6 a7 a8 a9 a10 a11 a12 a13 a14
      obtain ⟨sg, rg, zg⟩ := g
      have a1 : zg = u + 14 + i := a1
      subst a1
      have a2 : sg u = (3, 0) := a2
      have a3 : sg (u + 1) = (13, 16) := a3
      have hii : vp_in (nI i) 16 := vp_in_nI (by omega) (by decide)
      have hic : (nI i).toNatClampNeg = i := nI_clamp (by omega)
      refine v_iload_n C 1 dSu_init_50 rfl rfl ?_
      refine v_bipush C 16 dSu_init_51 (by decide) ?_
      refine v_icmp_ge C 75 dSu_init_53 (by decide) (fun h => absurd h (nI_ge (b := 16) (by omega) (by decide))) (fun _ => ?_)
      refine v_aload_n C 0 dSu_init_56 rfl rfl ?_
      refine v_getr C cfSu (k := 0) (by assumption) rfl (by assumption) w384 dSu_init_57 ?_
      refine v_iload_n C 1 dSu_init_60 rfl rfl ?_
      refine v_new C cfOp hdOp w343 w347 w12 (show 13 + i + 1 ≤ 29 by omega) (show 11104 + 8 * i + 8 ≤ 11232 by omega) dSu_init_61 ?_
      refine v_dup C dSu_init_64 rfl ?_
      refine v_callN C (host := "LinearHistories") (c_Op_init (kl x) (kD x) _ _ _) mwOp_init rfl w349 (by decide +kernel) rfl rfl (ble rfl) (ble rfl) (ble rfl) (show 13 + i + 1 + 0 ≤ 29 by omega) (show 11104 + 8 * i + 8 + 0 ≤ 11232 by omega) dSu_init_65 ?_
      rintro v g3 I3 J3 ⟨rfl, rfl, rfl, rfl⟩
      refine v_past C (a := u + 1) (n := 16) (by (simp only [g_sh]; (repeat (first | rw [if_neg (by omega)] | rw [if_pos (by omega)] | rw [s2_self] | rw [s2_a (by omega)] | rw [s2_k (by omega)])); try (first | rfl | assumption))) hii (by (simp only [g_sh]; (repeat (first | rw [if_neg (by omega)] | rw [if_pos (by omega)] | rw [s2_self] | rw [s2_a (by omega)] | rw [s2_k (by omega)])); try (first | rfl | assumption))) dSu_init_68 ?_
      rw [hic]
      refine v_iinc C (nI (i + 1)) dSu_init_69 rfl (nI_1 i) (ble rfl) rfl ?_
      refine v_goto C 50 dSu_init_72 (by decide) ?_
      refine V.widen (c2 := 13 + (i + 1)) (s3 := 11104 + 8 * (i + 1)) ?_ (show 13 + i + 1 + 0 ≤ _ by omega) (show 11104 + 8 * i + 8 + 0 ≤ _ by omega)
      refine ih (i + 1) _ _ _ (by omega) (by show u + 14 + i + 1 = _; omega) ?_ ?_ ?_ ?_ ?_ ?_ ?_ ?_ ?_ ?_ ?_ (fun j hj => ?_) ⟨fun b hb => ⟨?_, ?_⟩, fun b hb => ?_, fun b hb => ?_⟩
      · (simp only [g_sh]; (repeat (first | rw [if_neg (by omega)] | rw [if_pos (by omega)] | rw [s2_self] | rw [s2_a (by omega)] | rw [s2_k (by omega)])); try (first | rfl | assumption))
      · (simp only [g_sh]; (repeat (first | rw [if_neg (by omega)] | rw [if_pos (by omega)] | rw [s2_self] | rw [s2_a (by omega)] | rw [s2_k (by omega)])); try (first | rfl | assumption))
      · refine a4.mono (fun b b1 b2 => ⟨?_, ?_⟩)
        · (simp only [g_sh]; (repeat (first | rw [if_neg (by omega)] | rw [if_pos (by omega)] | rw [s2_self] | rw [s2_a (by omega)] | rw [s2_k (by omega)])); try (first | rfl | assumption))
        · simp only [g_sh]
          repeat (first | rw [if_neg (by omega)] | rw [s2_off (by omega)])
      · (simp only [g_sh]; (repeat (first | rw [if_neg (by omega)] | rw [if_pos (by omega)] | rw [s2_self] | rw [s2_a (by omega)] | rw [s2_k (by omega)])); try (first | rfl | assumption))
      · (simp only [g_sh]; (repeat (first | rw [if_neg (by omega)] | rw [if_pos (by omega)] | rw [s2_self] | rw [s2_a (by omega)] | rw [s2_k (by omega)])); try (first | rfl | assumption))
      · (simp only [g_sh]; (repeat (first | rw [if_neg (by omega)] | rw [if_pos (by omega)] | rw [s2_self] | rw [s2_a (by omega)] | rw [s2_k (by omega)])); try (first | rfl | assumption))
      · (simp only [g_sh]; (repeat (first | rw [if_neg (by omega)] | rw [if_pos (by omega)] | rw [s2_self] | rw [s2_a (by omega)] | rw [s2_k (by omega)])); try (first | rfl | assumption))
      · (simp only [g_sh]; (repeat (first | rw [if_neg (by omega)] | rw [if_pos (by omega)] | rw [s2_self] | rw [s2_a (by omega)] | rw [s2_k (by omega)])); try (first | rfl | assumption))
      · (simp only [g_sh]; (repeat (first | rw [if_neg (by omega)] | rw [if_pos (by omega)] | rw [s2_self] | rw [s2_a (by omega)] | rw [s2_k (by omega)])); try (first | rfl | assumption))
      · (simp only [g_sh]; (repeat (first | rw [if_neg (by omega)] | rw [if_pos (by omega)] | rw [s2_self] | rw [s2_a (by omega)] | rw [s2_k (by omega)])); try (first | rfl | assumption))
      · (simp only [g_sh]; (repeat (first | rw [if_neg (by omega)] | rw [if_pos (by omega)] | rw [s2_self] | rw [s2_a (by omega)] | rw [s2_k (by omega)])); try (first | rfl | assumption))
      · rcases Nat.lt_succ_iff_lt_or_eq.mp hj with hj | hj
        · have h := a13 j hj
          constructor
          · refine Eq.trans ?_ h.1
            (simp only [g_sh]; (repeat (first | rw [if_neg (by omega)] | rw [if_pos (by omega)] | rw [s2_self] | rw [s2_a (by omega)] | rw [s2_k (by omega)])); try (first | rfl | assumption))
          · refine Eq.trans ?_ h.2
            (simp only [g_sh]; (repeat (first | rw [if_neg (by omega)] | rw [if_pos (by omega)] | rw [s2_self] | rw [s2_a (by omega)] | rw [s2_k (by omega)])); try (first | rfl | assumption))
        · subst hj
          constructor
          · (simp only [g_sh]; (repeat (first | rw [if_neg (by omega)] | rw [if_pos (by omega)] | rw [s2_self] | rw [s2_a (by omega)] | rw [s2_k (by omega)])); try (first | rfl | assumption))
          · (simp only [g_sh]; (repeat (first | rw [if_neg (by omega)] | rw [if_pos (by omega)] | rw [s2_self] | rw [s2_a (by omega)] | rw [s2_k (by omega)])); try (first | rfl | assumption))
      · refine Eq.trans ?_ (a14.1 b hb).1
        (simp only [g_sh]; (repeat (first | rw [if_neg (by omega)] | rw [if_pos (by omega)] | rw [s2_self] | rw [s2_a (by omega)] | rw [s2_k (by omega)])); try (first | rfl | assumption))
      · refine Eq.trans ?_ (a14.1 b hb).2
        simp only [g_sh]
        repeat (first | rw [if_neg (by omega)] | rw [s2_off (by omega)])
      · refine Eq.trans ?_ (a14.2.1 b hb)
        simp only [z_m]
        repeat rw [if_neg (by omega)]
      · refine Eq.trans ?_ (a14.2.2 b hb)
        simp only [z_m]
        repeat rw [if_neg (by omega)]
  refine loop 16 0 _ _ _ (by omega) rfl ?_ ?_ ?_ ?_ ?_ ?_ ?_ ?_ ?_ ?_ ?_ (fun j hj => absurd hj (Nat.not_lt_zero j)) ⟨fun b hb => ⟨?_, ?_⟩, fun b hb => ?_, fun b hb => ?_⟩
  · (simp only [g_sh]; (repeat (first | rw [if_neg (by omega)] | rw [if_pos (by omega)] | rw [s2_self] | rw [s2_a (by omega)] | rw [s2_k (by omega)])); try (first | rfl | assumption))
  · (simp only [g_sh]; (repeat (first | rw [if_neg (by omega)] | rw [if_pos (by omega)] | rw [s2_self] | rw [s2_a (by omega)] | rw [s2_k (by omega)])); try (first | rfl | assumption))
  · refine hS.mono (fun b b1 b2 => ⟨?_, ?_⟩)
    · (simp only [g_sh]; (repeat (first | rw [if_neg (by omega)] | rw [if_pos (by omega)] | rw [s2_self] | rw [s2_a (by omega)] | rw [s2_k (by omega)])); try (first | rfl | assumption))
    · simp only [g_sh]
      repeat (first | rw [if_neg (by omega)] | rw [s2_off (by omega)])
  · (simp only [g_sh]; (repeat (first | rw [if_neg (by omega)] | rw [if_pos (by omega)] | rw [s2_self] | rw [s2_a (by omega)] | rw [s2_k (by omega)])); try (first | rfl | assumption))
  · (simp only [g_sh]; (repeat (first | rw [if_neg (by omega)] | rw [if_pos (by omega)] | rw [s2_self] | rw [s2_a (by omega)] | rw [s2_k (by omega)])); try (first | rfl | assumption))
  · (simp only [g_sh]; (repeat (first | rw [if_neg (by omega)] | rw [if_pos (by omega)] | rw [s2_self] | rw [s2_a (by omega)] | rw [s2_k (by omega)])); try (first | rfl | assumption))
  · (simp only [g_sh]; (repeat (first | rw [if_neg (by omega)] | rw [if_pos (by omega)] | rw [s2_self] | rw [s2_a (by omega)] | rw [s2_k (by omega)])); try (first | rfl | assumption))
  · (simp only [g_sh]; (repeat (first | rw [if_neg (by omega)] | rw [if_pos (by omega)] | rw [s2_self] | rw [s2_a (by omega)] | rw [s2_k (by omega)])); try (first | rfl | assumption))
  · (simp only [g_sh]; (repeat (first | rw [if_neg (by omega)] | rw [if_pos (by omega)] | rw [s2_self] | rw [s2_a (by omega)] | rw [s2_k (by omega)])); try (first | rfl | assumption))
  · (simp only [g_sh]; (repeat (first | rw [if_neg (by omega)] | rw [if_pos (by omega)] | rw [s2_self] | rw [s2_a (by omega)] | rw [s2_k (by omega)])); try (first | rfl | assumption))
  · (simp only [g_sh]; (repeat (first | rw [if_neg (by omega)] | rw [if_pos (by omega)] | rw [s2_self] | rw [s2_a (by omega)] | rw [s2_k (by omega)])); try (first | rfl | assumption))
  · refine Eq.trans ?_ ((o1 b (by show b < u + 1 + 1; omega)).1.trans ?_)
    · (simp only [g_sh]; (repeat (first | rw [if_neg (by omega)] | rw [if_pos (by omega)] | rw [s2_self] | rw [s2_a (by omega)] | rw [s2_k (by omega)])); try (first | rfl | assumption))
    · (simp only [g_sh]; (repeat (first | rw [if_neg (by omega)] | rw [if_pos (by omega)] | rw [s2_self] | rw [s2_a (by omega)] | rw [s2_k (by omega)])); try (first | rfl | assumption))
  · refine Eq.trans ?_ ((o1 b (by show b < u + 1 + 1; omega)).2.trans ?_)
    · simp only [g_sh]
      repeat (first | rw [if_neg (by omega)] | rw [s2_off (by omega)])
    · simp only [g_sh]
      repeat (first | rw [if_neg (by omega)] | rw [s2_off (by omega)])
  · refine Eq.trans ?_ ((o2 b (by show b < u + 1 + 1; omega)).trans ?_)
    · simp only [z_m, g_sh]
      repeat rw [if_neg (by omega)]
    · simp only [z_m, g_sh]
      repeat rw [if_neg (by omega)]
  · refine Eq.trans ?_ ((o3 b (by show b < u + 1 + 1; omega)).trans ?_)
    · simp only [z_m, g_sh]
      repeat rw [if_neg (by omega)]
    · simp only [z_m, g_sh]
      repeat rw [if_neg (by omega)]
/-- LinearHistories: a the object, a+1 subjects, a+2 owners, a+3 places, a+4 earlier, a+5 waiting, a+6 scratch (to a+14), a+15 rowNumbers, a+16 rowResults, a+17 reached -/
def LHAt (g : GM) (a : Nat) : Prop := g.1 a = (5, 0) ∧ g.1 (a + 1) = (14, 6) ∧ g.1 (a + 2) = (10, 48) ∧ g.1 (a + 3) = (10, 48) ∧ g.1 (a + 4) = (11, 48) ∧ g.1 (a + 5) = (10, 8) ∧ SpAt g (a + 6) ∧ g.1 (a + 15) = (10, 48) ∧ g.1 (a + 16) = (10, 48) ∧ g.1 (a + 17) = (10, 6) ∧ g.2.1 a 0 = some (a + 1) ∧ g.2.1 a 1 = some (a + 2) ∧ g.2.1 a 2 = some (a + 3) ∧ g.2.1 a 3 = some (a + 4) ∧ g.2.1 a 4 = some (a + 5) ∧ g.2.1 a 5 = some (a + 6) ∧ g.2.1 a 6 = some (a + 15) ∧ g.2.1 a 7 = some (a + 16) ∧ g.2.1 a 8 = some (a + 17)
theorem c_LH_init (l : Launch) (D : va_G) (g : GM) (I : MI) (J : MJ) {a : Nat} (a0 : g.1 a = (5, 0)) (hz : g.2.2 = a + 1) : Ct l yLH_init bLH_init 1 none (rmA 3 52 17 11300) D [.ref a] g I J (fun v g2 I2 J2 => v = none ∧ LHAt g2 a ∧ (∀ i, g2.2.1 (a + 1) i = none) ∧ g2.2.2 = a + 18 ∧ oldG a g I J g2 I2 J2 ∧ I2 a = I a ∧ J2 a = J a ∧ ∀ j, j < 8 → I2 (a + 5) j = -1) := by
  obtain ⟨sh, r, z⟩ := g
  have hz : z = a + 1 := hz
  subst hz
  have a0 : sh a = (5, 0) := a0
  refine Ct.of (by decide) (ble rfl) [some (.ref a)] rfl ?_
  intro x C M
  refine v_aload_n C 0 dLH_init_0 rfl rfl ?_
  refine v_objI C w20 (ble rfl) (ble rfl) dLH_init_1 ?_
  refine v_aload_n C 0 dLH_init_4 rfl rfl ?_
  refine v_bipush C 6 dLH_init_5 (by decide) ?_
  refine v_newu C 6 w23 (by decide) (by decide) (by decide) (ble rfl) (ble rfl) dLH_init_7 ?_
  refine v_putr C cfLH (k := 0) (n := 0) (by simp only [g_sh]; (repeat rw [if_neg (by omega)]); assumption) rfl w111 rfl M.2.2.2.2.2 rfl rfl rfl dLH_init_10 ?_
  refine v_aload_n C 0 dLH_init_13 rfl rfl ?_
  refine v_bipush C 48 dLH_init_14 (by decide) ?_
  refine v_newi C 48 (by decide) (by decide) (by decide) (ble rfl) (ble rfl) dLH_init_16 ?_
  refine v_putr C cfLH (k := 1) (n := 0) (by simp only [g_sh]; (repeat rw [if_neg (by omega)]); assumption) rfl w112 rfl M.2.2.2.2.2 rfl rfl rfl dLH_init_18 ?_
  refine v_aload_n C 0 dLH_init_21 rfl rfl ?_
  refine v_bipush C 48 dLH_init_22 (by decide) ?_
  refine v_newi C 48 (by decide) (by decide) (by decide) (ble rfl) (ble rfl) dLH_init_24 ?_
  refine v_putr C cfLH (k := 2) (n := 0) (by simp only [g_sh]; (repeat rw [if_neg (by omega)]); assumption) rfl w113 rfl M.2.2.2.2.2 rfl rfl rfl dLH_init_26 ?_
  refine v_aload_n C 0 dLH_init_29 rfl rfl ?_
  refine v_bipush C 48 dLH_init_30 (by decide) ?_
  refine v_newl C 48 (by decide) (by decide) (by decide) (ble rfl) (ble rfl) dLH_init_32 ?_
  refine v_putr C cfLH (k := 3) (n := 0) (by simp only [g_sh]; (repeat rw [if_neg (by omega)]); assumption) rfl w114 rfl M.2.2.2.2.2 rfl rfl rfl dLH_init_34 ?_
  refine v_aload_n C 0 dLH_init_37 rfl rfl ?_
  refine v_bipush C 8 dLH_init_38 (by decide) ?_
  refine v_newi C 8 (by decide) (by decide) (by decide) (ble rfl) (ble rfl) dLH_init_40 ?_
  refine v_putr C cfLH (k := 4) (n := 0) (by simp only [g_sh]; (repeat rw [if_neg (by omega)]); assumption) rfl w115 rfl M.2.2.2.2.2 rfl rfl rfl dLH_init_42 ?_
  refine v_aload_n C 0 dLH_init_45 rfl rfl ?_
  refine v_new C cfSp hdSp w25 w26 w2 (ble rfl) (ble rfl) dLH_init_46 ?_
  refine v_dup C dLH_init_49 rfl ?_
  refine v_callN C (host := "LinearHistories") (c_Sp_init (kl x) (kD x) _ _ _ (by (simp only [g_sh]; (repeat (first | rw [if_neg (by omega)] | rw [if_pos (by omega)] | rw [s2_self] | rw [s2_a (by omega)] | rw [s2_k (by omega)])); try (first | rfl | assumption))) rfl) mwSp_init rfl w28 (by decide +kernel) rfl rfl (ble rfl) (ble rfl) (ble rfl) (ble rfl) (ble rfl) dLH_init_50 ?_
  rintro v ⟨sh2, r2, z2⟩ I2 J2 ⟨rfl, hS, hz2, o1, o2, o3⟩
  have hz2 : z2 = a + 15 := hz2
  subst hz2
  have hS : SpAt (sh2, r2, a + 15) (a + 6) := hS
  have q0 : ∀ b, b < a + 6 → sh2 b = _ := fun b hb => (o1 b hb).1
  have q1 : ∀ b, b < a + 6 → r2 b = _ := fun b hb => (o1 b hb).2
  have e0 : sh2 a = (5, 0) := by
    refine Eq.trans (q0 a (by omega)) ?_
    (simp only [g_sh]; (repeat (first | rw [if_neg (by omega)] | rw [if_pos (by omega)] | rw [s2_self] | rw [s2_a (by omega)] | rw [s2_k (by omega)])); try (first | rfl | assumption))
  have e1 : sh2 (a + 1) = (14, 6) := by
    refine Eq.trans (q0 (a + 1) (by omega)) ?_
    (simp only [g_sh]; (repeat (first | rw [if_neg (by omega)] | rw [if_pos (by omega)] | rw [s2_self] | rw [s2_a (by omega)] | rw [s2_k (by omega)])); try (first | rfl | assumption))
  have e2 : sh2 (a + 2) = (10, 48) := by
    refine Eq.trans (q0 (a + 2) (by omega)) ?_
    (simp only [g_sh]; (repeat (first | rw [if_neg (by omega)] | rw [if_pos (by omega)] | rw [s2_self] | rw [s2_a (by omega)] | rw [s2_k (by omega)])); try (first | rfl | assumption))
  have e3 : sh2 (a + 3) = (10, 48) := by
    refine Eq.trans (q0 (a + 3) (by omega)) ?_
    (simp only [g_sh]; (repeat (first | rw [if_neg (by omega)] | rw [if_pos (by omega)] | rw [s2_self] | rw [s2_a (by omega)] | rw [s2_k (by omega)])); try (first | rfl | assumption))
  have e4 : sh2 (a + 4) = (11, 48) := by
    refine Eq.trans (q0 (a + 4) (by omega)) ?_
    (simp only [g_sh]; (repeat (first | rw [if_neg (by omega)] | rw [if_pos (by omega)] | rw [s2_self] | rw [s2_a (by omega)] | rw [s2_k (by omega)])); try (first | rfl | assumption))
  have e5 : sh2 (a + 5) = (10, 8) := by
    refine Eq.trans (q0 (a + 5) (by omega)) ?_
    (simp only [g_sh]; (repeat (first | rw [if_neg (by omega)] | rw [if_pos (by omega)] | rw [s2_self] | rw [s2_a (by omega)] | rw [s2_k (by omega)])); try (first | rfl | assumption))
  have r0 : r2 a 0 = some (a + 1) := by
    refine Eq.trans (congrFun (q1 a (by omega)) 0) ?_
    (simp only [g_sh]; (repeat (first | rw [if_neg (by omega)] | rw [if_pos (by omega)] | rw [s2_self] | rw [s2_a (by omega)] | rw [s2_k (by omega)])); try (first | rfl | assumption))
  have r1 : r2 a 1 = some (a + 2) := by
    refine Eq.trans (congrFun (q1 a (by omega)) 1) ?_
    (simp only [g_sh]; (repeat (first | rw [if_neg (by omega)] | rw [if_pos (by omega)] | rw [s2_self] | rw [s2_a (by omega)] | rw [s2_k (by omega)])); try (first | rfl | assumption))
  have r3 : r2 a 2 = some (a + 3) := by
    refine Eq.trans (congrFun (q1 a (by omega)) 2) ?_
    (simp only [g_sh]; (repeat (first | rw [if_neg (by omega)] | rw [if_pos (by omega)] | rw [s2_self] | rw [s2_a (by omega)] | rw [s2_k (by omega)])); try (first | rfl | assumption))
  have r4 : r2 a 3 = some (a + 4) := by
    refine Eq.trans (congrFun (q1 a (by omega)) 3) ?_
    (simp only [g_sh]; (repeat (first | rw [if_neg (by omega)] | rw [if_pos (by omega)] | rw [s2_self] | rw [s2_a (by omega)] | rw [s2_k (by omega)])); try (first | rfl | assumption))
  have r5 : r2 a 4 = some (a + 5) := by
    refine Eq.trans (congrFun (q1 a (by omega)) 4) ?_
    (simp only [g_sh]; (repeat (first | rw [if_neg (by omega)] | rw [if_pos (by omega)] | rw [s2_self] | rw [s2_a (by omega)] | rw [s2_k (by omega)])); try (first | rfl | assumption))
  have rn : ∀ i, r2 (a + 1) i = none := fun i => by
    refine Eq.trans (congrFun (q1 (a + 1) (by omega)) i) ?_
    (simp only [g_sh]; (repeat (first | rw [if_neg (by omega)] | rw [if_pos (by omega)] | rw [s2_self] | rw [s2_a (by omega)] | rw [s2_k (by omega)])); try (first | rfl | assumption))
  refine v_putr C cfLH (k := 5) (n := 0) (by simp only [g_sh]; (repeat rw [if_neg (by omega)]); assumption) rfl w116 rfl M.2.2.2.2.2 rfl rfl rfl dLH_init_53 ?_
  refine v_aload_n C 0 dLH_init_56 rfl rfl ?_
  refine v_bipush C 48 dLH_init_57 (by decide) ?_
  refine v_newi C 48 (by decide) (by decide) (by decide) (ble rfl) (ble rfl) dLH_init_59 ?_
  refine v_putr C cfLH (k := 6) (n := 0) (by simp only [g_sh]; (repeat rw [if_neg (by omega)]); assumption) rfl w117 rfl M.2.2.2.2.2 rfl rfl rfl dLH_init_61 ?_
  refine v_aload_n C 0 dLH_init_64 rfl rfl ?_
  refine v_bipush C 48 dLH_init_65 (by decide) ?_
  refine v_newi C 48 (by decide) (by decide) (by decide) (ble rfl) (ble rfl) dLH_init_67 ?_
  refine v_putr C cfLH (k := 7) (n := 0) (by simp only [g_sh]; (repeat rw [if_neg (by omega)]); assumption) rfl w118 rfl M.2.2.2.2.2 rfl rfl rfl dLH_init_69 ?_
  refine v_aload_n C 0 dLH_init_72 rfl rfl ?_
  refine v_bipush C 6 dLH_init_73 (by decide) ?_
  refine v_newi C 6 (by decide) (by decide) (by decide) (ble rfl) (ble rfl) dLH_init_75 ?_
  refine v_putr C cfLH (k := 8) (n := 0) (by simp only [g_sh]; (repeat rw [if_neg (by omega)]); assumption) rfl w119 rfl M.2.2.2.2.2 rfl rfl rfl dLH_init_77 ?_
  refine v_aload_n C 0 dLH_init_80 rfl rfl ?_
  refine v_getr C cfLH (k := 4) (n := 0) (by (simp only [g_sh]; (repeat (first | rw [if_neg (by omega)] | rw [if_pos (by omega)] | rw [s2_self] | rw [s2_a (by omega)] | rw [s2_k (by omega)])); try (first | rfl | assumption))) rfl (b := a + 5) (by (simp only [g_sh]; (repeat (first | rw [if_neg (by omega)] | rw [if_pos (by omega)] | rw [s2_self] | rw [s2_a (by omega)] | rw [s2_k (by omega)])); try (first | rfl | assumption))) w115 dLH_init_81 ?_
  refine v_iconst C (-1) dLH_init_84 (by decide) ?_
  refine v_callS C (c_Ar_fill (kl x) (kD x) _ _ _ (-1) (n := 8) (by (simp only [g_sh]; (repeat (first | rw [if_neg (by omega)] | rw [if_pos (by omega)] | rw [s2_self] | rw [s2_a (by omega)] | rw [s2_k (by omega)])); try (first | rfl | assumption))) (by decide)) mwAr_fill w109 w108 rfl rfl (ble rfl) (ble rfl) (ble rfl) (ble rfl) (ble rfl) dLH_init_85 ?_
  rintro v g3 I3 J3 ⟨rfl, rfl, rfl, f1, f2⟩
  refine v_vret C M dLH_init_88 (ble rfl) (ble rfl) ⟨rfl, ⟨?_, ?_, ?_, ?_, ?_, ?_, ?_, ?_, ?_, ?_, ?_, ?_, ?_, ?_, ?_, ?_, ?_, ?_, ?_⟩, fun i => ?_, rfl, ⟨fun b hb => ⟨?_, ?_⟩, fun b hb => ?_, fun b hb => ?_⟩, ?_, ?_, f2⟩
  · (simp only [g_sh]; (repeat (first | rw [if_neg (by omega)] | rw [if_pos (by omega)] | rw [s2_self] | rw [s2_a (by omega)] | rw [s2_k (by omega)])); try (first | rfl | assumption))
  · (simp only [g_sh]; (repeat (first | rw [if_neg (by omega)] | rw [if_pos (by omega)] | rw [s2_self] | rw [s2_a (by omega)] | rw [s2_k (by omega)])); try (first | rfl | assumption))
  · (simp only [g_sh]; (repeat (first | rw [if_neg (by omega)] | rw [if_pos (by omega)] | rw [s2_self] | rw [s2_a (by omega)] | rw [s2_k (by omega)])); try (first | rfl | assumption))
  · (simp only [g_sh]; (repeat (first | rw [if_neg (by omega)] | rw [if_pos (by omega)] | rw [s2_self] | rw [s2_a (by omega)] | rw [s2_k (by omega)])); try (first | rfl | assumption))
  · (simp only [g_sh]; (repeat (first | rw [if_neg (by omega)] | rw [if_pos (by omega)] | rw [s2_self] | rw [s2_a (by omega)] | rw [s2_k (by omega)])); try (first | rfl | assumption))
  · (simp only [g_sh]; (repeat (first | rw [if_neg (by omega)] | rw [if_pos (by omega)] | rw [s2_self] | rw [s2_a (by omega)] | rw [s2_k (by omega)])); try (first | rfl | assumption))
  · refine hS.mono (fun b b1 b2 => ⟨?_, ?_⟩)
    · (simp only [g_sh]; (repeat (first | rw [if_neg (by omega)] | rw [if_pos (by omega)] | rw [s2_self] | rw [s2_a (by omega)] | rw [s2_k (by omega)])); try (first | rfl | assumption))
    · simp only [g_sh]
      repeat (first | rw [if_neg (by omega)] | rw [s2_off (by omega)])
  · (simp only [g_sh]; (repeat (first | rw [if_neg (by omega)] | rw [if_pos (by omega)] | rw [s2_self] | rw [s2_a (by omega)] | rw [s2_k (by omega)])); try (first | rfl | assumption))
  · (simp only [g_sh]; (repeat (first | rw [if_neg (by omega)] | rw [if_pos (by omega)] | rw [s2_self] | rw [s2_a (by omega)] | rw [s2_k (by omega)])); try (first | rfl | assumption))
  · (simp only [g_sh]; (repeat (first | rw [if_neg (by omega)] | rw [if_pos (by omega)] | rw [s2_self] | rw [s2_a (by omega)] | rw [s2_k (by omega)])); try (first | rfl | assumption))
  · (simp only [g_sh]; (repeat (first | rw [if_neg (by omega)] | rw [if_pos (by omega)] | rw [s2_self] | rw [s2_a (by omega)] | rw [s2_k (by omega)])); try (first | rfl | assumption))
  · (simp only [g_sh]; (repeat (first | rw [if_neg (by omega)] | rw [if_pos (by omega)] | rw [s2_self] | rw [s2_a (by omega)] | rw [s2_k (by omega)])); try (first | rfl | assumption))
  · (simp only [g_sh]; (repeat (first | rw [if_neg (by omega)] | rw [if_pos (by omega)] | rw [s2_self] | rw [s2_a (by omega)] | rw [s2_k (by omega)])); try (first | rfl | assumption))
  · (simp only [g_sh]; (repeat (first | rw [if_neg (by omega)] | rw [if_pos (by omega)] | rw [s2_self] | rw [s2_a (by omega)] | rw [s2_k (by omega)])); try (first | rfl | assumption))
  · (simp only [g_sh]; (repeat (first | rw [if_neg (by omega)] | rw [if_pos (by omega)] | rw [s2_self] | rw [s2_a (by omega)] | rw [s2_k (by omega)])); try (first | rfl | assumption))
  · (simp only [g_sh]; (repeat (first | rw [if_neg (by omega)] | rw [if_pos (by omega)] | rw [s2_self] | rw [s2_a (by omega)] | rw [s2_k (by omega)])); try (first | rfl | assumption))
  · (simp only [g_sh]; (repeat (first | rw [if_neg (by omega)] | rw [if_pos (by omega)] | rw [s2_self] | rw [s2_a (by omega)] | rw [s2_k (by omega)])); try (first | rfl | assumption))
  · (simp only [g_sh]; (repeat (first | rw [if_neg (by omega)] | rw [if_pos (by omega)] | rw [s2_self] | rw [s2_a (by omega)] | rw [s2_k (by omega)])); try (first | rfl | assumption))
  · (simp only [g_sh]; (repeat (first | rw [if_neg (by omega)] | rw [if_pos (by omega)] | rw [s2_self] | rw [s2_a (by omega)] | rw [s2_k (by omega)])); try (first | rfl | assumption))
  · refine Eq.trans ?_ (rn i)
    (simp only [g_sh]; (repeat (first | rw [if_neg (by omega)] | rw [if_pos (by omega)] | rw [s2_self] | rw [s2_a (by omega)] | rw [s2_k (by omega)])); try (first | rfl | assumption))
  · refine Eq.trans ?_ ((q0 b (by omega)).trans ?_)
    · (simp only [g_sh]; (repeat (first | rw [if_neg (by omega)] | rw [if_pos (by omega)] | rw [s2_self] | rw [s2_a (by omega)] | rw [s2_k (by omega)])); try (first | rfl | assumption))
    · (simp only [g_sh]; (repeat (first | rw [if_neg (by omega)] | rw [if_pos (by omega)] | rw [s2_self] | rw [s2_a (by omega)] | rw [s2_k (by omega)])); try (first | rfl | assumption))
  · refine Eq.trans ?_ ((q1 b (by omega)).trans ?_)
    · simp only [g_sh]
      repeat (first | rw [if_neg (by omega)] | rw [s2_off (by omega)])
    · simp only [g_sh]
      repeat (first | rw [if_neg (by omega)] | rw [s2_off (by omega)])
  · refine Eq.trans (f1 b (by omega)) (Eq.trans ?_ ((o2 b (by show b < a + 6; omega)).trans ?_))
    · simp only [z_m, g_sh]
      repeat rw [if_neg (by omega)]
    · simp only [z_m, g_sh]
      repeat rw [if_neg (by omega)]
  · refine Eq.trans ?_ ((o3 b (by show b < a + 6; omega)).trans ?_)
    · simp only [z_m, g_sh]
    · simp only [z_m, g_sh]
      repeat rw [if_neg (by omega)]
  · refine Eq.trans (f1 a (by omega)) (Eq.trans ?_ ((o2 a (by show a < a + 6; omega)).trans ?_))
    · simp only [z_m, g_sh]
      repeat rw [if_neg (by omega)]
    · simp only [z_m, g_sh]
      repeat rw [if_neg (by omega)]
  · refine Eq.trans ?_ ((o3 a (by show a < a + 6; omega)).trans ?_)
    · simp only [z_m, g_sh]
    · simp only [z_m, g_sh]
      repeat rw [if_neg (by omega)]
end
section
/-! LinearHistories, where its methods return -/
section VU
variable {x : KX} {cc : ByteArray} {own : String} {nL : Nat} {rm : Room} {g : GM} {cells slots : Nat} {I : MI} {J : MJ} {pc : Nat} {lv : List (Option Value)} {st : List Value}
theorem v_ualds (C : Cx x cc own nL rm) {a n b : Nat} {i : Int32} (hs : g.1 a = (14, n)) (hin : vp_in i n) (hr : g.2.1 a i.toNatClampNeg = some b) (d : decode cc pc = .ok (.aaload, 1)) (kk : V x g cells slots I J (pc + 1) lv (.ref b :: st)) : V x g cells slots I J pc lv (.int i :: .ref a :: st) := by
  refine v_uald C hs hin d ?_
  rw [hr]
  exact kk
theorem v_ualdn (C : Cx x cc own nL rm) {a n : Nat} {i : Int32} (hs : g.1 a = (14, n)) (hin : vp_in i n) (hr : g.2.1 a i.toNatClampNeg = none) (d : decode cc pc = .ok (.aaload, 1)) (kk : V x g cells slots I J (pc + 1) lv (.null :: st)) : V x g cells slots I J pc lv (.int i :: .ref a :: st) := by
  refine v_uald C hs hin d ?_
  rw [hr]
  exact kk
theorem v_astoreN (C : Cx x cc own nL rm) {q : Fin 4} (i : Nat) (d : decode cc pc = .ok (.astore_n q, 1)) (hi : (q : Nat) = i) (hn : i < nL) (hok : ok1 lv i = true) (k : V x g cells slots I J (pc + 1) (lv.set i (some .null)) st) : V x g cells slots I J pc lv (.null :: st) := fun H locs ls a1 a2 a3 a4 a5 => lv_astore_nN C.1 C.2.1 d hi a5 (by rw [C.2.2.2.2.2.2.1]; exact hn) rfl (fun ls h => k H locs ls a1 a2 a3 a4 (lh.set1 h hok))
theorem v_aloadN (C : Cx x cc own nL rm) {q : Fin 4} (i : Nat) (d : decode cc pc = .ok (.aload_n q, 1)) (hi : (q : Nat) = i) (h : lv[i]? = some (some .null)) (k : V x g cells slots I J (pc + 1) lv (.null :: st)) : V x g cells slots I J pc lv st := fun H locs ls a1 a2 a3 a4 a5 => lv_aload_nN C.1 C.2.1 d hi (a5.at h) (k H locs ls a1 a2 a3 a4 a5)
end VU
theorem c_LH_checkProcess (l : Launch) (D : va_G) (g : GM) (I : MI) (J : MJ) {a p : Nat} (hp : p < 8) : Ct l yLH_checkProcess bLH_checkProcess 2 none (rmN 0 0) D [.ref a, .int (nI p)] g I J (PF none g I J) := by
  refine Ct.of (by decide) (ble rfl) [some (.ref a), some (.int (nI p))] rfl ?_
  intro x C M
  refine v_iload_n C 1 dLH_checkProcess_0 rfl rfl ?_
  refine v_if_lt C 10 dLH_checkProcess_1 (by decide) (fun h => absurd h (nI_pos (by omega))) (fun _ => ?_)
  refine v_iload_n C 1 dLH_checkProcess_4 rfl rfl ?_
  refine v_bipush C 8 dLH_checkProcess_5 (by decide) ?_
  refine v_icmp_lt C 20 dLH_checkProcess_7 (by decide) (fun _ => ?_) (fun h => absurd (nI_lt (b := 8) hp (by decide)) h)
  exact v_vret C M dLH_checkProcess_20 (ble rfl) (ble rfl) ⟨rfl, rfl, rfl, rfl⟩
theorem c_LH_checkLinear (l : Launch) (D : va_G) (g : GM) (I : MI) (J : MJ) {a : Nat} : Ct l yLH_checkLinear bLH_checkLinear 2 none (rmN 0 0) D [.ref a, .int 1] g I J (PF none g I J) := by
  refine Ct.of (by decide) (ble rfl) [some (.ref a), some (.int 1)] rfl ?_
  intro x C M
  refine v_iload_n C 1 dLH_checkLinear_0 rfl rfl ?_
  refine v_iconst C 1 dLH_checkLinear_1 (by decide) ?_
  refine v_icmp_eq C 15 dLH_checkLinear_2 (by decide) (fun _ => ?_) (fun h => absurd rfl h)
  exact v_vret C M dLH_checkLinear_15 (ble rfl) (ble rfl) ⟨rfl, rfl, rfl, rfl⟩
theorem c_LH_checkPlace (l : Launch) (D : va_G) (g : GM) (I : MI) (J : MJ) {a i n : Nat} (a0 : g.1 a = (5, 0)) (hn : I a 9 = nI n) (hn2 : n ≤ 48) (hi : i < n) : Ct l yLH_checkPlace bLH_checkPlace 2 none (rmN 0 0) D [.ref a, .int (nI i)] g I J (PF none g I J) := by
  refine Ct.of (by decide) (ble rfl) [some (.ref a), some (.int (nI i))] rfl ?_
  intro x C M
  refine v_iload_n C 1 dLH_checkPlace_0 rfl rfl ?_
  refine v_if_lt C 12 dLH_checkPlace_1 (by decide) (fun h => absurd h (nI_pos (by omega))) (fun _ => ?_)
  refine v_iload_n C 1 dLH_checkPlace_4 rfl rfl ?_
  refine v_aload_n C 0 dLH_checkPlace_5 rfl rfl ?_
  refine v_geti C cfLH (k := 9) (by assumption) rfl w120 dLH_checkPlace_6 ?_
  rw [hn]
  refine v_icmp_lt C 22 dLH_checkPlace_9 (by decide) (fun _ => ?_) (fun h => absurd (nI_lt hi (by omega)) h)
  exact v_vret C M dLH_checkPlace_22 (ble rfl) (ble rfl) ⟨rfl, rfl, rfl, rfl⟩
theorem c_LH_subjectOf (l : Launch) (D : va_G) (g : GM) (I : MI) (J : MJ) {a k no b : Nat} (hA : LHAt g a) (hn : I a 11 = nI no) (hn2 : no ≤ 6) (hk : k < no) (hb : g.2.1 (a + 1) k = some b) : Ct l yLH_subjectOf bLH_subjectOf 2 (some (.object "LinearHistories$Subject")) (rmN 0 0) D [.ref a, .int (nI k)] g I J (PF (some (.ref b)) g I J) := by
  refine Ct.of (by decide) (ble rfl) [some (.ref a), some (.int (nI k))] rfl ?_
  intro x C M
  obtain ⟨a0, a1, a2, a3, a4, a5, hS, a15, a16, a17, r0, r1, r2, r3, r4, r5, r6, r7, r8⟩ := id hA
  have hkc : (nI k).toNatClampNeg = k := nI_clamp (by omega)
  have hki : vp_in (nI k) 6 := vp_in_nI (by omega) (by decide)
  have hb2 : g.2.1 (a + 1) (nI k).toNatClampNeg = some b := by rw [hkc]; exact hb
  refine v_iload_n C 1 dLH_subjectOf_0 rfl rfl ?_
  refine v_if_lt C 21 dLH_subjectOf_1 (by decide) (fun h => absurd h (nI_pos (by omega))) (fun _ => ?_)
  refine v_iload_n C 1 dLH_subjectOf_4 rfl rfl ?_
  refine v_aload_n C 0 dLH_subjectOf_5 rfl rfl ?_
  refine v_geti C cfLH (k := 11) (by assumption) rfl w122 dLH_subjectOf_6 ?_
  rw [hn]
  refine v_icmp_ge C 21 dLH_subjectOf_9 (by decide) (fun h => absurd h (nI_ge hk (by omega))) (fun _ => ?_)
  refine v_aload_n C 0 dLH_subjectOf_12 rfl rfl ?_
  refine v_getr C cfLH (k := 0) (by assumption) rfl (by assumption) w111 dLH_subjectOf_13 ?_
  refine v_iload_n C 1 dLH_subjectOf_16 rfl rfl ?_
  refine v_ualds C a1 hki hb2 dLH_subjectOf_17 ?_
  refine v_ifnonnull C 31 dLH_subjectOf_18 (by decide) ?_
  refine v_aload_n C 0 dLH_subjectOf_31 rfl rfl ?_
  refine v_getr C cfLH (k := 0) (by assumption) rfl (by assumption) w111 dLH_subjectOf_32 ?_
  refine v_iload_n C 1 dLH_subjectOf_35 rfl rfl ?_
  refine v_ualds C a1 hki hb2 dLH_subjectOf_36 ?_
  exact v_aret C M dLH_subjectOf_37 (ble rfl) (ble rfl) ⟨rfl, rfl, rfl, rfl⟩
theorem c_LH_operationOf (l : Launch) (D : va_G) (g : GM) (I : MI) (J : MJ) {a p : Nat} (hA : LHAt g a) (hp : p < 8) (hw : I (a + 5) p ≠ -1) : Ct l yLH_operationOf bLH_operationOf 2 (some .int) (rmN 1 21) D [.ref a, .int (nI p)] g I J (PF (some (.int (I (a + 5) p))) g I J) := by
  refine Ct.of (by decide) (ble rfl) [some (.ref a), some (.int (nI p))] rfl ?_
  intro x C M
  obtain ⟨a0, a1, a2, a3, a4, a5, hS, a15, a16, a17, r0, r1, r2, r3, r4, r5, r6, r7, r8⟩ := id hA
  have hpc : (nI p).toNatClampNeg = p := nI_clamp (by omega)
  have hpi : vp_in (nI p) 8 := vp_in_nI hp (by decide)
  refine v_aload_n C 0 dLH_operationOf_0 rfl rfl ?_
  refine v_iload_n C 1 dLH_operationOf_1 rfl rfl ?_
  refine v_cVv C (c_LH_checkProcess (kl x) (kD x) g I J hp) mwLH_checkProcess cfLH (by assumption) w467 ws13 w465 rfl rfl (ble rfl) (ble rfl) (ble rfl) (ble rfl) (ble rfl) dLH_operationOf_2 ?_
  refine v_aload_n C 0 dLH_operationOf_5 rfl rfl ?_
  refine v_getr C cfLH (k := 4) (by assumption) rfl (by assumption) w115 dLH_operationOf_6 ?_
  refine v_iload_n C 1 dLH_operationOf_9 rfl rfl ?_
  refine v_iald C (by assumption) (by assumption) dLH_operationOf_10 ?_
  rw [hpc]
  refine v_iconst C (-1) dLH_operationOf_11 (by decide) ?_
  refine v_icmp_ne C 25 dLH_operationOf_12 (by decide) (fun _ => ?_) (fun h => absurd h hw)
  refine v_aload_n C 0 dLH_operationOf_25 rfl rfl ?_
  refine v_getr C cfLH (k := 4) (by assumption) rfl (by assumption) w115 dLH_operationOf_26 ?_
  refine v_iload_n C 1 dLH_operationOf_29 rfl rfl ?_
  refine v_iald C (by assumption) (by assumption) dLH_operationOf_30 ?_
  rw [hpc]
  exact v_iret C M dLH_operationOf_31 (ble rfl) (ble rfl) (pf_i rfl rfl rfl)
theorem c_LH_events (l : Launch) (D : va_G) (g : GM) (I : MI) (J : MJ) {a : Nat} (a0 : g.1 a = (5, 0)) : Ct l yLH_events bLH_events 1 (some .int) (rmN 0 0) D [.ref a] g I J (PF (some (.int (I a 13))) g I J) := by
  refine Ct.of (by decide) (ble rfl) [some (.ref a)] rfl ?_
  intro x C M
  refine v_aload_n C 0 dLH_events_0 rfl rfl ?_
  refine v_geti C cfLH (k := 13) (by assumption) rfl w124 dLH_events_1 ?_
  exact v_iret C M dLH_events_4 (ble rfl) (ble rfl) (pf_i rfl rfl rfl)
theorem c_LH_clear (l : Launch) (D : va_G) (g : GM) (I : MI) (J : MJ) {a : Nat} (hA : LHAt g a) : Ct l yLH_clear bLH_clear 2 (some .int) (rmN 1 23) D [.ref a] g I J (fun v g2 I2 J2 => v = some (.int (I a 13)) ∧ g2 = g ∧ J2 = s2 J a 14 0 ∧ (∀ b, b ≠ a → b ≠ a + 5 → I2 b = I b) ∧ (∀ j, j < 8 → I2 (a + 5) j = -1) ∧ I2 a 10 = 0 ∧ I2 a 11 = 0 ∧ I2 a 12 = 0 ∧ I2 a 13 = 0) := by
  refine Ct.of (by decide) (ble rfl) [some (.ref a), none] rfl ?_
  intro x C M
  obtain ⟨a0, a1, a2, a3, a4, a5, hS, a15, a16, a17, r0, r1, r2, r3, r4, r5, r6, r7, r8⟩ := id hA
  refine v_aload_n C 0 dLH_clear_0 rfl rfl ?_
  refine v_geti C cfLH (k := 13) (by assumption) rfl w124 dLH_clear_1 ?_
  refine v_istore_n C 1 dLH_clear_4 rfl (ble rfl) rfl ?_
  refine v_aload_n C 0 dLH_clear_5 rfl rfl ?_
  refine v_getr C cfLH (k := 4) (by assumption) rfl (by assumption) w115 dLH_clear_6 ?_
  refine v_iconst C (-1) dLH_clear_9 (by decide) ?_
  refine v_callS C (c_Ar_fill (kl x) (kD x) g I J (-1) a5 (by decide)) mwAr_fill w109 w108 rfl rfl (ble rfl) (ble rfl) (ble rfl) (ble rfl) (ble rfl) dLH_clear_10 ?_
  rintro v g2 I2 J2 ⟨rfl, rfl, rfl, f1, f2⟩
  refine v_aload_n C 0 dLH_clear_13 rfl rfl ?_
  refine v_iconst C 0 dLH_clear_14 (by decide) ?_
  refine v_puti C cfLH (k := 11) (by assumption) rfl w122 rfl rfl rfl dLH_clear_15 ?_
  refine v_aload_n C 0 dLH_clear_18 rfl rfl ?_
  refine v_iconst C 0 dLH_clear_19 (by decide) ?_
  refine v_puti C cfLH (k := 12) (by assumption) rfl w123 rfl rfl rfl dLH_clear_20 ?_
  refine v_aload_n C 0 dLH_clear_23 rfl rfl ?_
  refine v_iconst C 0 dLH_clear_24 (by decide) ?_
  refine v_puti C cfLH (k := 13) (by assumption) rfl w124 rfl rfl rfl dLH_clear_25 ?_
  refine v_aload_n C 0 dLH_clear_28 rfl rfl ?_
  refine v_lconst C 0 dLH_clear_29 (by decide) ?_
  refine v_putl C cfLH (k := 14) (by assumption) rfl w125 rfl rfl rfl dLH_clear_30 ?_
  refine v_aload_n C 0 dLH_clear_33 rfl rfl ?_
  refine v_iconst C 0 dLH_clear_34 (by decide) ?_
  refine v_puti C cfLH (k := 10) (by assumption) rfl w121 rfl (by first | rfl | assumption) (by first | rfl | assumption) dLH_clear_35 ?_
  refine v_iload_n C 1 dLH_clear_38 rfl rfl ?_
  refine v_iret C M dLH_clear_39 (ble rfl) (ble rfl) ⟨rfl, rfl, rfl, fun b b1 b2 => ?_, fun j hj => ?_, ?_, ?_, ?_, ?_⟩
  · rw [s2_off b1, s2_off b1, s2_off b1, s2_off b1]
    exact f1 b b2
  · rw [s2_a (by omega), s2_a (by omega), s2_a (by omega), s2_a (by omega)]
    exact f2 j hj
  · rw [s2_self]
  · rw [s2_k (by decide), s2_k (by decide), s2_k (by decide), s2_self]
  · rw [s2_k (by decide), s2_k (by decide), s2_self]
  · rw [s2_k (by decide), s2_self]
theorem c_LH_lose (l : Launch) (D : va_G) (g : GM) (I : MI) (J : MJ) {a p : Nat} (hA : LHAt g a) (hp : p < 8) (hw : I (a + 5) p ≠ -1) : Ct l yLH_lose bLH_lose 2 none (rmN 2 42) D [.ref a, .int (nI p)] g I J (PF none g (s2 (s2 I (a + 5) p (-1)) a 13 (I a 13 + 1)) J) := by
  refine Ct.of (by decide) (ble rfl) [some (.ref a), some (.int (nI p))] rfl ?_
  intro x C M
  obtain ⟨a0, a1, a2, a3, a4, a5, hS, a15, a16, a17, r0, r1, r2, r3, r4, r5, r6, r7, r8⟩ := id hA
  have hpc : (nI p).toNatClampNeg = p := nI_clamp (by omega)
  have hpi : vp_in (nI p) 8 := vp_in_nI hp (by decide)
  refine v_aload_n C 0 dLH_lose_0 rfl rfl ?_
  refine v_iload_n C 1 dLH_lose_1 rfl rfl ?_
  refine v_cVi C (c_LH_operationOf (kl x) (kD x) g I J hA hp hw) mwLH_operationOf cfLH (by assumption) w516 ws14 w514 rfl rfl (ble rfl) (ble rfl) (ble rfl) (ble rfl) (ble rfl) dLH_lose_2 ?_
  refine v_pop C dLH_lose_5 rfl ?_
  refine v_aload_n C 0 dLH_lose_6 rfl rfl ?_
  refine v_getr C cfLH (k := 4) (by assumption) rfl (by assumption) w115 dLH_lose_7 ?_
  refine v_iload_n C 1 dLH_lose_10 rfl rfl ?_
  refine v_iconst C (-1) dLH_lose_11 (by decide) ?_
  refine v_iast C (by assumption) (by assumption) dLH_lose_12 ?_
  rw [hpc]
  refine v_aload_n C 0 dLH_lose_13 rfl rfl ?_
  refine v_dup C dLH_lose_14 rfl ?_
  refine v_geti C cfLH (k := 13) (by assumption) rfl w124 dLH_lose_15 ?_
  rw [s2_a (show a ≠ a + 5 by omega)]
  refine v_iconst C 1 dLH_lose_18 (by decide) ?_
  refine v_iadd C dLH_lose_19 ?_
  refine v_puti C cfLH (k := 13) (by assumption) rfl w124 rfl rfl rfl dLH_lose_20 ?_
  exact v_vret C M dLH_lose_23 (ble rfl) (ble rfl) (pf_v rfl rfl)
def backI (I : MI) (a u p k9 q pl : Nat) (res : Int32) : MI := endI (s2 (s2 (s2 I (a + 5) p (-1)) a 10 0) a 13 (I a 13 + 1)) u pl k9 res (I a 13 + 1)
theorem c_LH_back (l : Launch) (D : va_G) (g : GM) (I : MI) (J : MJ) {a p q k no u n pl k9 : Nat} (res : Int32) (hA : LHAt g a) (hp : p < 8) (hq : I (a + 5) p = nI q) (hq2 : q < 48) (hno : I a 11 = nI no) (hno2 : no ≤ 6) (how : I (a + 2) q = nI k) (hk : k < no) (hb : g.2.1 (a + 1) k = some u) (hU : SuAt g u) (hau : a + 18 ≤ u) (hpl : I (a + 3) q = nI pl) (hn : I u 6 = nI n) (hn2 : n ≤ 16) (hpn : pl < n) (hk9 : I u 7 = nI k9) (hk92 : k9 < 16) : Ct l yLH_back bLH_back 4 none (rmN 2 43) D [.ref a, .int (nI p), .int res] g I J (PF none g (backI I a u p k9 q pl res) (s2 J a 14 (J a 14 ||| jshl 1 (nI q)))) := by
  refine Ct.of (by decide) (ble rfl) [some (.ref a), some (.int (nI p)), some (.int res), none] rfl ?_
  intro x C M
  obtain ⟨a0, a1, a2, a3, a4, a5, hS, a15, a16, a17, r0, r1, r2, r3, r4, r5, r6, r7, r8⟩ := id hA
  have u0 := hU.1
  have hpc : (nI p).toNatClampNeg = p := nI_clamp (by omega)
  have hpi : vp_in (nI p) 8 := vp_in_nI hp (by decide)
  have hqc : (nI q).toNatClampNeg = q := nI_clamp (by omega)
  have hqi : vp_in (nI q) 48 := vp_in_nI hq2 (by decide)
  have hw : I (a + 5) p ≠ -1 := fun e => by
    have h0 := nI_pos (n := q) (by omega)
    rw [← hq, e] at h0
    exact h0 (by decide)
  refine v_aload_n C 0 dLH_back_0 rfl rfl ?_
  refine v_iload_n C 1 dLH_back_1 rfl rfl ?_
  refine v_cVi C (c_LH_operationOf (kl x) (kD x) g I J hA hp hw) mwLH_operationOf cfLH (by assumption) w516 ws14 w514 rfl rfl (ble rfl) (ble rfl) (ble rfl) (ble rfl) (ble rfl) dLH_back_2 ?_
  rw [hq]
  refine v_istore_n C 3 dLH_back_5 rfl (ble rfl) rfl ?_
  refine v_aload_n C 0 dLH_back_6 rfl rfl ?_
  refine v_getr C cfLH (k := 4) (by assumption) rfl (by assumption) w115 dLH_back_7 ?_
  refine v_iload_n C 1 dLH_back_10 rfl rfl ?_
  refine v_iconst C (-1) dLH_back_11 (by decide) ?_
  refine v_iast C (by assumption) (by assumption) dLH_back_12 ?_
  rw [hpc]
  refine v_aload_n C 0 dLH_back_13 rfl rfl ?_
  refine v_dup C dLH_back_14 rfl ?_
  refine v_getl C cfLH (k := 14) (by assumption) rfl w125 dLH_back_15 ?_
  refine v_lconst C 1 dLH_back_18 (by decide) ?_
  refine v_iload_n C 3 dLH_back_19 rfl rfl ?_
  refine v_lshl C dLH_back_20 ?_
  refine v_lor C dLH_back_21 ?_
  refine v_putl C cfLH (k := 14) (by assumption) rfl w125 rfl rfl rfl dLH_back_22 ?_
  refine v_aload_n C 0 dLH_back_25 rfl rfl ?_
  refine v_iconst C 0 dLH_back_26 (by decide) ?_
  refine v_puti C cfLH (k := 10) (by assumption) rfl w121 rfl (by first | rfl | assumption) (by first | rfl | assumption) dLH_back_27 ?_
  refine v_aload_n C 0 dLH_back_30 rfl rfl ?_
  refine v_dup C dLH_back_31 rfl ?_
  refine v_geti C cfLH (k := 13) (by assumption) rfl w124 dLH_back_32 ?_
  rw [s2_k (show 13 ≠ 10 by decide), s2_a (show a ≠ a + 5 by omega)]
  refine v_iconst C 1 dLH_back_35 (by decide) ?_
  refine v_iadd C dLH_back_36 ?_
  refine v_puti C cfLH (k := 13) (by assumption) rfl w124 rfl rfl rfl dLH_back_37 ?_
  refine v_aload_n C 0 dLH_back_40 rfl rfl ?_
  refine v_aload_n C 0 dLH_back_41 rfl rfl ?_
  refine v_getr C cfLH (k := 1) (by assumption) rfl (by assumption) w112 dLH_back_42 ?_
  refine v_iload_n C 3 dLH_back_45 rfl rfl ?_
  refine v_iald C (by assumption) (by assumption) dLH_back_46 ?_
  rw [hqc, s2_a (show a + 2 ≠ a by omega), s2_a (show a + 2 ≠ a by omega), s2_a (show a + 2 ≠ a + 5 by omega), how]
  refine v_cVr C (c_LH_subjectOf (kl x) (kD x) g _ _ hA (by rw [s2_k (by decide), s2_k (by decide), s2_a (by omega)]; exact hno) hno2 hk hb) mwLH_subjectOf cfLH (by assumption) w171 ws0 w169 rfl rfl (ble rfl) (ble rfl) (ble rfl) (ble rfl) (ble rfl) dLH_back_47 ?_
  refine v_aload_n C 0 dLH_back_50 rfl rfl ?_
  refine v_getr C cfLH (k := 2) (by assumption) rfl (by assumption) w113 dLH_back_51 ?_
  refine v_iload_n C 3 dLH_back_54 rfl rfl ?_
  refine v_iald C (by assumption) (by assumption) dLH_back_55 ?_
  rw [hqc, s2_a (show a + 3 ≠ a by omega), s2_a (show a + 3 ≠ a by omega), s2_a (show a + 3 ≠ a + 5 by omega), hpl]
  refine v_iload_n C 2 dLH_back_56 rfl rfl ?_
  refine v_aload_n C 0 dLH_back_57 rfl rfl ?_
  refine v_geti C cfLH (k := 13) (by assumption) rfl w124 dLH_back_58 ?_
  rw [s2_self]
  refine v_cVv C (c_Su_endOperation (kl x) (kD x) g _ _ res _ hU (by rw [s2_a (by omega), s2_a (by omega), s2_a (by omega)]; exact hn) hn2 hpn (by rw [s2_a (by omega), s2_a (by omega), s2_a (by omega)]; exact hk9) hk92) mwSu_endOperation cfSu (by assumption) w520 w521 w519 rfl rfl (ble rfl) (ble rfl) (ble rfl) (ble rfl) (ble rfl) dLH_back_61 ?_
  exact v_vret C M dLH_back_64 (ble rfl) (ble rfl) (pf_v rfl rfl)
def clI (I : MI) (a u p k n q : Nat) (code va vb : Int32) : MI := s2 (s2 (s2 (addI (s2 (s2 (s2 I (a + 2) q (nI k)) (a + 3) q (nI n)) (a + 5) p (nI q)) u n (nI p) code va vb) a 10 0) a 12 (nI (q + 1))) a 13 (I a 13 + 1)
theorem addI_off {I : MI} {u n b : Nat} {pr code va vb : Int32} (h : b < u ∨ u + 30 ≤ b) (hn : n < 16) : addI I u n pr code va vb b = I b := by
  unfold addI
  rw [s2_off (by omega), s2_off (by omega), s2_off (by omega), s2_off (by omega), s2_off (by omega), s2_off (by omega), s2_off (by omega), s2_off (by omega), s2_off (by omega), s2_off (by omega), s2_off (by omega)]
theorem c_LH_call (l : Launch) (D : va_G) (g : GM) (I : MI) (J : MJ) {a p k no u n q : Nat} (code va vb : Int32) (hA : LHAt g a) (hp : p < 8) (hw : I (a + 5) p = -1) (hno : I a 11 = nI no) (hno2 : no ≤ 6) (hk : k < no) (hb : g.2.1 (a + 1) k = some u) (hU : SuAt g u) (hau : a + 18 ≤ u) (hc0 : ¬ code < 0) (hc1 : code < (if I u 5 = 0 then 5 else 3)) (hq : I a 12 = nI q) (hq2 : q < 48) (hn : I u 6 = nI n) (hn2 : n < 16) : Ct l yLH_call bLH_call 8 (some .int) (rmN 3 68) D [.ref a, .int (nI p), .int (nI k), .int code, .int va, .int vb] g I J (PF (some (.int (nI q))) g (clI I a u p k n q code va vb) (s2 J (a + 4) q (J a 14))) := by
  refine Ct.of (by decide) (ble rfl) [some (.ref a), some (.int (nI p)), some (.int (nI k)), some (.int code), some (.int va), some (.int vb), none, none] rfl ?_
  intro x C M
  obtain ⟨a0, a1, a2, a3, a4, a5, hS, a15, a16, a17, r0, r1, r2, r3, r4, r5, r6, r7, r8⟩ := id hA
  have u0 := hU.1
  have hpc : (nI p).toNatClampNeg = p := nI_clamp (by omega)
  have hpi : vp_in (nI p) 8 := vp_in_nI hp (by decide)
  have hqc : (nI q).toNatClampNeg = q := nI_clamp (by omega)
  have hqi : vp_in (nI q) 48 := vp_in_nI hq2 (by decide)
  refine v_aload_n C 0 dLH_call_0 rfl rfl ?_
  refine v_iload_n C 1 dLH_call_1 rfl rfl ?_
  refine v_cVv C (c_LH_checkProcess (kl x) (kD x) g I J hp) mwLH_checkProcess cfLH (by assumption) w467 ws13 w465 rfl rfl (ble rfl) (ble rfl) (ble rfl) (ble rfl) (ble rfl) dLH_call_2 ?_
  refine v_aload_n C 0 dLH_call_5 rfl rfl ?_
  refine v_iload_n C 2 dLH_call_6 rfl rfl ?_
  refine v_cVr C (c_LH_subjectOf (kl x) (kD x) g I J hA hno hno2 hk hb) mwLH_subjectOf cfLH (by assumption) w171 ws0 w169 rfl rfl (ble rfl) (ble rfl) (ble rfl) (ble rfl) (ble rfl) dLH_call_7 ?_
  refine v_astore C dLH_call_10 (ble rfl) rfl ?_
  refine v_iload_n C 3 dLH_call_12 rfl rfl ?_
  refine v_if_lt C 25 dLH_call_13 (by decide) (fun h => absurd h hc0) (fun _ => ?_)
  refine v_iload_n C 3 dLH_call_16 rfl rfl ?_
  refine v_aload C dLH_call_17 rfl ?_
  refine v_cVi C (c_Su_operationsOfKind (kl x) (kD x) g I J u0) mwSu_operationsOfKind cfSu (by assumption) w471 w472 w470 rfl rfl (ble rfl) (ble rfl) (ble rfl) (ble rfl) (ble rfl) dLH_call_19 ?_
  refine v_icmp_lt C 35 dLH_call_22 (by decide) (fun _ => ?_) (fun h => absurd hc1 h)
  refine v_aload_n C 0 dLH_call_35 rfl rfl ?_
  refine v_getr C cfLH (k := 4) (by assumption) rfl (by assumption) w115 dLH_call_36 ?_
  refine v_iload_n C 1 dLH_call_39 rfl rfl ?_
  refine v_iald C (by assumption) (by assumption) dLH_call_40 ?_
  rw [hpc, hw]
  refine v_iconst C (-1) dLH_call_41 (by decide) ?_
  refine v_icmp_eq C 55 dLH_call_42 (by decide) (fun _ => ?_) (fun h => absurd rfl h)
  refine v_aload_n C 0 dLH_call_55 rfl rfl ?_
  refine v_geti C cfLH (k := 12) (by assumption) rfl w123 dLH_call_56 ?_
  rw [hq]
  refine v_bipush C 48 dLH_call_59 (by decide) ?_
  refine v_icmp_ge C 74 dLH_call_61 (by decide) (fun h => absurd h (nI_ge (b := 48) hq2 (by decide))) (fun _ => ?_)
  refine v_aload C dLH_call_64 rfl ?_
  refine v_geti C cfSu (k := 6) (by assumption) rfl w394 dLH_call_66 ?_
  rw [hn]
  refine v_bipush C 16 dLH_call_69 (by decide) ?_
  refine v_icmp_lt C 76 dLH_call_71 (by decide) (fun _ => ?_) (fun h => absurd (nI_lt (b := 16) hn2 (by decide)) h)
  refine v_aload_n C 0 dLH_call_76 rfl rfl ?_
  refine v_geti C cfLH (k := 12) (by assumption) rfl w123 dLH_call_77 ?_
  rw [hq]
  refine v_istore C dLH_call_80 (ble rfl) rfl ?_
  refine v_aload_n C 0 dLH_call_82 rfl rfl ?_
  refine v_getr C cfLH (k := 1) (by assumption) rfl (by assumption) w112 dLH_call_83 ?_
  refine v_iload C dLH_call_86 rfl ?_
  refine v_iload_n C 2 dLH_call_88 rfl rfl ?_
  refine v_iast C (by assumption) (by assumption) dLH_call_89 ?_
  rw [hqc]
  refine v_aload_n C 0 dLH_call_90 rfl rfl ?_
  refine v_getr C cfLH (k := 2) (by assumption) rfl (by assumption) w113 dLH_call_91 ?_
  refine v_iload C dLH_call_94 rfl ?_
  refine v_aload C dLH_call_96 rfl ?_
  refine v_geti C cfSu (k := 6) (by assumption) rfl w394 dLH_call_98 ?_
  rw [s2_a (show u ≠ a + 2 by omega), hn]
  refine v_iast C (by assumption) (by assumption) dLH_call_101 ?_
  rw [hqc]
  refine v_aload_n C 0 dLH_call_102 rfl rfl ?_
  refine v_getr C cfLH (k := 3) (by assumption) rfl (by assumption) w114 dLH_call_103 ?_
  refine v_iload C dLH_call_106 rfl ?_
  refine v_aload_n C 0 dLH_call_108 rfl rfl ?_
  refine v_getl C cfLH (k := 14) (by assumption) rfl w125 dLH_call_109 ?_
  refine v_last C (by assumption) (by assumption) dLH_call_112 ?_
  rw [hqc]
  refine v_aload_n C 0 dLH_call_113 rfl rfl ?_
  refine v_getr C cfLH (k := 4) (by assumption) rfl (by assumption) w115 dLH_call_114 ?_
  refine v_iload_n C 1 dLH_call_117 rfl rfl ?_
  refine v_iload C dLH_call_118 rfl ?_
  refine v_iast C (by assumption) (by assumption) dLH_call_120 ?_
  rw [hpc]
  refine v_aload C dLH_call_121 rfl ?_
  refine v_iload_n C 1 dLH_call_123 rfl rfl ?_
  refine v_iload_n C 3 dLH_call_124 rfl rfl ?_
  refine v_iload C dLH_call_125 rfl ?_
  refine v_iload C dLH_call_127 rfl ?_
  refine v_cVv C (c_Su_addOperation (kl x) (kD x) g _ _ (nI p) code va vb hU (by rw [s2_a (by omega), s2_a (by omega), s2_a (by omega)]; exact hn) hn2) mwSu_addOperation cfSu (by assumption) w492 w493 w491 rfl rfl (ble rfl) (ble rfl) (ble rfl) (ble rfl) (ble rfl) dLH_call_129 ?_
  refine v_aload_n C 0 dLH_call_132 rfl rfl ?_
  refine v_iconst C 0 dLH_call_133 (by decide) ?_
  refine v_puti C cfLH (k := 10) (by assumption) rfl w121 rfl (by first | rfl | assumption) (by first | rfl | assumption) dLH_call_134 ?_
  refine v_aload_n C 0 dLH_call_137 rfl rfl ?_
  refine v_dup C dLH_call_138 rfl ?_
  refine v_geti C cfLH (k := 12) (by assumption) rfl w123 dLH_call_139 ?_
  rw [s2_k (show 12 ≠ 10 by decide), addI_off (by omega) hn2, s2_a (show a ≠ a + 5 by omega), s2_a (show a ≠ a + 3 by omega), s2_a (show a ≠ a + 2 by omega), hq]
  refine v_iconst C 1 dLH_call_142 (by decide) ?_
  refine v_iadd C dLH_call_143 ?_
  refine v_puti C cfLH (k := 12) (by assumption) rfl w123 rfl rfl rfl dLH_call_144 ?_
  refine v_aload_n C 0 dLH_call_147 rfl rfl ?_
  refine v_dup C dLH_call_148 rfl ?_
  refine v_geti C cfLH (k := 13) (by assumption) rfl w124 dLH_call_149 ?_
  rw [s2_k (show 13 ≠ 12 by decide), s2_k (show 13 ≠ 10 by decide), addI_off (by omega) hn2, s2_a (show a ≠ a + 5 by omega), s2_a (show a ≠ a + 3 by omega), s2_a (show a ≠ a + 2 by omega)]
  refine v_iconst C 1 dLH_call_152 (by decide) ?_
  refine v_iadd C dLH_call_153 ?_
  refine v_puti C cfLH (k := 13) (by assumption) rfl w124 rfl rfl rfl dLH_call_154 ?_
  refine v_iload C dLH_call_157 rfl ?_
  exact v_iret C M dLH_call_159 (ble rfl) (ble rfl) (pf_i rfl (by rw [nI_1]; rfl) rfl)
/-- no room: 48 operations, or 16 of the object -/
theorem c_LH_call_full (l : Launch) (D : va_G) (g : GM) (I : MI) (J : MJ) {a p k no u n q : Nat} (code va vb : Int32) (hA : LHAt g a) (hp : p < 8) (hw : I (a + 5) p = -1) (hno : I a 11 = nI no) (hno2 : no ≤ 6) (hk : k < no) (hb : g.2.1 (a + 1) k = some u) (hU : SuAt g u) (hc0 : ¬ code < 0) (hc1 : code < (if I u 5 = 0 then 5 else 3)) (hq : I a 12 = nI q) (hq2 : q ≤ 48) (hn : I u 6 = nI n) (hn2 : n ≤ 16) (hf : q = 48 ∨ n = 16) : Ct l yLH_call bLH_call 8 (some .int) (rmN 3 68) D [.ref a, .int (nI p), .int (nI k), .int code, .int va, .int vb] g I J (PF (some (.int (-1))) g I J) := by
  refine Ct.of (by decide) (ble rfl) [some (.ref a), some (.int (nI p)), some (.int (nI k)), some (.int code), some (.int va), some (.int vb), none, none] rfl ?_
  intro x C M
  obtain ⟨a0, a1, a2, a3, a4, a5, hS, a15, a16, a17, r0, r1, r2, r3, r4, r5, r6, r7, r8⟩ := id hA
  have u0 := hU.1
  have hpc : (nI p).toNatClampNeg = p := nI_clamp (by omega)
  have hpi : vp_in (nI p) 8 := vp_in_nI hp (by decide)
  refine v_aload_n C 0 dLH_call_0 rfl rfl ?_
  refine v_iload_n C 1 dLH_call_1 rfl rfl ?_
  refine v_cVv C (c_LH_checkProcess (kl x) (kD x) g I J hp) mwLH_checkProcess cfLH (by assumption) w467 ws13 w465 rfl rfl (ble rfl) (ble rfl) (ble rfl) (ble rfl) (ble rfl) dLH_call_2 ?_
  refine v_aload_n C 0 dLH_call_5 rfl rfl ?_
  refine v_iload_n C 2 dLH_call_6 rfl rfl ?_
  refine v_cVr C (c_LH_subjectOf (kl x) (kD x) g I J hA hno hno2 hk hb) mwLH_subjectOf cfLH (by assumption) w171 ws0 w169 rfl rfl (ble rfl) (ble rfl) (ble rfl) (ble rfl) (ble rfl) dLH_call_7 ?_
  refine v_astore C dLH_call_10 (ble rfl) rfl ?_
  refine v_iload_n C 3 dLH_call_12 rfl rfl ?_
  refine v_if_lt C 25 dLH_call_13 (by decide) (fun h => absurd h hc0) (fun _ => ?_)
  refine v_iload_n C 3 dLH_call_16 rfl rfl ?_
  refine v_aload C dLH_call_17 rfl ?_
  refine v_cVi C (c_Su_operationsOfKind (kl x) (kD x) g I J u0) mwSu_operationsOfKind cfSu (by assumption) w471 w472 w470 rfl rfl (ble rfl) (ble rfl) (ble rfl) (ble rfl) (ble rfl) dLH_call_19 ?_
  refine v_icmp_lt C 35 dLH_call_22 (by decide) (fun _ => ?_) (fun h => absurd hc1 h)
  refine v_aload_n C 0 dLH_call_35 rfl rfl ?_
  refine v_getr C cfLH (k := 4) (by assumption) rfl (by assumption) w115 dLH_call_36 ?_
  refine v_iload_n C 1 dLH_call_39 rfl rfl ?_
  refine v_iald C (by assumption) (by assumption) dLH_call_40 ?_
  rw [hpc, hw]
  refine v_iconst C (-1) dLH_call_41 (by decide) ?_
  refine v_icmp_eq C 55 dLH_call_42 (by decide) (fun _ => ?_) (fun h => absurd rfl h)
  refine v_aload_n C 0 dLH_call_55 rfl rfl ?_
  refine v_geti C cfLH (k := 12) (by assumption) rfl w123 dLH_call_56 ?_
  rw [hq]
  refine v_bipush C 48 dLH_call_59 (by decide) ?_
  by_cases h48 : q = 48
  · refine v_icmp_ge C 74 dLH_call_61 (by decide) (fun _ => ?_) (fun h => absurd (nI_le (a := 48) (by omega) (by omega)) h)
    refine v_iconst C (-1) dLH_call_74 (by decide) ?_
    exact v_iret C M dLH_call_75 (ble rfl) (ble rfl) (pf_i rfl rfl rfl)
  · refine v_icmp_ge C 74 dLH_call_61 (by decide) (fun h => absurd h (nI_ge (b := 48) (by omega) (by decide))) (fun _ => ?_)
    refine v_aload C dLH_call_64 rfl ?_
    refine v_geti C cfSu (k := 6) (by assumption) rfl w394 dLH_call_66 ?_
    rw [hn]
    refine v_bipush C 16 dLH_call_69 (by decide) ?_
    refine v_icmp_lt C 76 dLH_call_71 (by decide) (fun h => absurd h (nI_nlt (b := 16) (by omega) (by omega))) (fun _ => ?_)
    refine v_iconst C (-1) dLH_call_74 (by decide) ?_
    exact v_iret C M dLH_call_75 (ble rfl) (ble rfl) (pf_i rfl rfl rfl)
end
section
theorem c_LH_object_full (l : Launch) (D : va_G) (g : GM) (I : MI) (J : MJ) {a : Nat} (kind : Int32) (hA : LHAt g a) (hk0 : ¬ kind < 0) (hk5 : kind ≤ 5) (hno : I a 11 = 6) : Ct l yLH_object bLH_object 3 (some .int) (rmN 0 0) D [.ref a, .int kind] g I J (PF (some (.int (-1))) g I J) := by
  refine Ct.of (by decide) (ble rfl) [some (.ref a), some (.int kind), none] rfl ?_
  intro x C M
  have a0 := hA.1
  refine v_iload_n C 1 dLH_object_0 rfl rfl ?_
  refine v_if_lt C 9 dLH_object_1 (by decide) (fun h => absurd h hk0) (fun _ => ?_)
  refine v_iload_n C 1 dLH_object_4 rfl rfl ?_
  refine v_iconst C 5 dLH_object_5 (by decide) ?_
  refine v_icmp_le C 19 dLH_object_6 (by decide) (fun _ => ?_) (fun h => absurd hk5 h)
  refine v_aload_n C 0 dLH_object_19 rfl rfl ?_
  refine v_geti C cfLH (k := 11) (by assumption) rfl w122 dLH_object_20 ?_
  rw [hno]
  refine v_bipush C 6 dLH_object_23 (by decide) ?_
  refine v_icmp_lt C 30 dLH_object_25 (by decide) (fun h => absurd h (by decide)) (fun _ => ?_)
  refine v_iconst C (-1) dLH_object_28 (by decide) ?_
  exact v_iret C M dLH_object_29 (ble rfl) (ble rfl) (pf_i rfl rfl rfl)
theorem c_LH_object_old (l : Launch) (D : va_G) (g : GM) (I : MI) (J : MJ) {a no u : Nat} (kind : Int32) (hA : LHAt g a) (hk0 : ¬ kind < 0) (hk5 : kind ≤ 5) (hno : I a 11 = nI no) (hno2 : no < 6) (hb : g.2.1 (a + 1) no = some u) (u0 : g.1 u = (3, 0)) (hau : a + 18 ≤ u) : Ct l yLH_object bLH_object 3 (some .int) (rmN 2 41) D [.ref a, .int kind] g I J (PF (some (.int (nI no))) g (s2 (s2 (begI I u kind) a 10 0) a 11 (nI (no + 1))) J) := by
  refine Ct.of (by decide) (ble rfl) [some (.ref a), some (.int kind), none] rfl ?_
  intro x C M
  obtain ⟨a0, a1, a2, a3, a4, a5, hS, a15, a16, a17, r0, r1, r2, r3, r4, r5, r6, r7, r8⟩ := id hA
  have hkc : (nI no).toNatClampNeg = no := nI_clamp (by omega)
  have hki : vp_in (nI no) 6 := vp_in_nI (by omega) (by decide)
  have hb2 : g.2.1 (a + 1) (nI no).toNatClampNeg = some u := by rw [hkc]; exact hb
  have eb : begI I u kind a = I a := by
    unfold begI
    rw [s2_off (by omega), s2_off (by omega), s2_off (by omega), s2_off (by omega), s2_off (by omega), s2_off (by omega), s2_off (by omega), s2_off (by omega)]
  refine v_iload_n C 1 dLH_object_0 rfl rfl ?_
  refine v_if_lt C 9 dLH_object_1 (by decide) (fun h => absurd h hk0) (fun _ => ?_)
  refine v_iload_n C 1 dLH_object_4 rfl rfl ?_
  refine v_iconst C 5 dLH_object_5 (by decide) ?_
  refine v_icmp_le C 19 dLH_object_6 (by decide) (fun _ => ?_) (fun h => absurd hk5 h)
  refine v_aload_n C 0 dLH_object_19 rfl rfl ?_
  refine v_geti C cfLH (k := 11) (by assumption) rfl w122 dLH_object_20 ?_
  rw [hno]
  refine v_bipush C 6 dLH_object_23 (by decide) ?_
  refine v_icmp_lt C 30 dLH_object_25 (by decide) (fun _ => ?_) (fun h => absurd (nI_lt (b := 6) hno2 (by decide)) h)
  refine v_aload_n C 0 dLH_object_30 rfl rfl ?_
  refine v_getr C cfLH (k := 0) (by assumption) rfl (by assumption) w111 dLH_object_31 ?_
  refine v_aload_n C 0 dLH_object_34 rfl rfl ?_
  refine v_geti C cfLH (k := 11) (by assumption) rfl w122 dLH_object_35 ?_
  rw [hno]
  refine v_ualds C a1 hki hb2 dLH_object_38 ?_
  refine v_astore_n C 2 dLH_object_39 rfl (ble rfl) rfl ?_
  refine v_aload_n C 2 dLH_object_40 rfl rfl ?_
  refine v_ifnonnull C 62 dLH_object_41 (by decide) ?_
  refine v_aload_n C 2 dLH_object_62 rfl rfl ?_
  refine v_iload_n C 1 dLH_object_63 rfl rfl ?_
  refine v_cVv C (c_Su_begin (kl x) (kD x) g I J kind u0) mwSu_begin cfSu (by assumption) w450 w451 w449 rfl rfl (ble rfl) (ble rfl) (ble rfl) (ble rfl) (ble rfl) dLH_object_64 ?_
  refine v_aload_n C 0 dLH_object_67 rfl rfl ?_
  refine v_iconst C 0 dLH_object_68 (by decide) ?_
  refine v_puti C cfLH (k := 10) (by assumption) rfl w121 rfl (by first | rfl | assumption) (by first | rfl | assumption) dLH_object_69 ?_
  refine v_aload_n C 0 dLH_object_72 rfl rfl ?_
  refine v_dup C dLH_object_73 rfl ?_
  refine v_geti C cfLH (k := 11) (by assumption) rfl w122 dLH_object_74 ?_
  rw [s2_k (show 11 ≠ 10 by decide), eb, hno]
  refine v_iconst C 1 dLH_object_77 (by decide) ?_
  refine v_iadd C dLH_object_78 ?_
  refine v_puti C cfLH (k := 11) (by assumption) rfl w122 rfl rfl rfl dLH_object_79 ?_
  refine v_aload_n C 0 dLH_object_82 rfl rfl ?_
  refine v_geti C cfLH (k := 11) (by assumption) rfl w122 dLH_object_83 ?_
  rw [s2_self, nI_1]
  refine v_iconst C 1 dLH_object_86 (by decide) ?_
  refine v_isub C dLH_object_87 ?_
  rw [nI_pred]
  exact v_iret C M dLH_object_88 (ble rfl) (ble rfl) (pf_i rfl rfl rfl)
theorem c_LH_object_new (l : Launch) (D : va_G) (g : GM) (I : MI) (J : MJ) {a no u : Nat} (kind : Int32) (hA : LHAt g a) (hk0 : ¬ kind < 0) (hk5 : kind ≤ 5) (hno : I a 11 = nI no) (hno2 : no < 6) (hb : g.2.1 (a + 1) no = none) (hz : g.2.2 = u) (hau : a + 18 ≤ u) : Ct l yLH_object bLH_object 3 (some .int) (rmA 4 73 30 11250) D [.ref a, .int kind] g I J (fun v g2 I2 J2 => v = some (.int (nI no)) ∧ ∃ I1 : MI, SuAt g2 u ∧ g2.2.2 = u + 30 ∧ (∀ b, b < u → g2.1 b = g.1 b) ∧ (∀ b, b < u → b ≠ a + 1 → g2.2.1 b = g.2.1 b) ∧ g2.2.1 (a + 1) no = some u ∧ (∀ j, j ≠ no → g2.2.1 (a + 1) j = g.2.1 (a + 1) j) ∧ (∀ b, b < u → I1 b = I b) ∧ (∀ b, b < u → J2 b = J b) ∧ I2 = s2 (s2 (begI I1 u kind) a 10 0) a 11 (nI (no + 1))) := by
  obtain ⟨sh, r, z⟩ := g
  have hz : z = u := hz
  subst hz
  refine Ct.of (by decide) (ble rfl) [some (.ref a), some (.int kind), none] rfl ?_
  intro x C M
  obtain ⟨a0, a1, a2, a3, a4, a5, hS, a15, a16, a17, r0, r1, r2, r3, r4, r5, r6, r7, r8⟩ := id hA
  have hkc : (nI no).toNatClampNeg = no := nI_clamp (by omega)
  have hki : vp_in (nI no) 6 := vp_in_nI (by omega) (by decide)
  refine v_iload_n C 1 dLH_object_0 rfl rfl ?_
  refine v_if_lt C 9 dLH_object_1 (by decide) (fun h => absurd h hk0) (fun _ => ?_)
  refine v_iload_n C 1 dLH_object_4 rfl rfl ?_
  refine v_iconst C 5 dLH_object_5 (by decide) ?_
  refine v_icmp_le C 19 dLH_object_6 (by decide) (fun _ => ?_) (fun h => absurd hk5 h)
  refine v_aload_n C 0 dLH_object_19 rfl rfl ?_
  refine v_geti C cfLH (k := 11) (by assumption) rfl w122 dLH_object_20 ?_
  rw [hno]
  refine v_bipush C 6 dLH_object_23 (by decide) ?_
  refine v_icmp_lt C 30 dLH_object_25 (by decide) (fun _ => ?_) (fun h => absurd (nI_lt (b := 6) hno2 (by decide)) h)
  refine v_aload_n C 0 dLH_object_30 rfl rfl ?_
  refine v_getr C cfLH (k := 0) (by assumption) rfl (by assumption) w111 dLH_object_31 ?_
  refine v_aload_n C 0 dLH_object_34 rfl rfl ?_
  refine v_geti C cfLH (k := 11) (by assumption) rfl w122 dLH_object_35 ?_
  rw [hno]
  refine v_ualdn C a1 hki (by rw [hkc]; exact hb) dLH_object_38 ?_
  refine v_astoreN C 2 dLH_object_39 rfl (ble rfl) rfl ?_
  refine v_aloadN C 2 dLH_object_40 rfl rfl ?_
  refine v_ifnonnullN C dLH_object_41 ?_
  refine v_new C cfSu hdSu w23 w338 w11 (ble rfl) (ble rfl) dLH_object_44 ?_
  refine v_dup C dLH_object_47 rfl ?_
  refine v_callI C (c_Su_init (kl x) (kD x) _ _ _ (u := z) (by (simp only [g_sh]; (repeat (first | rw [if_neg (by omega)] | rw [if_pos (by omega)] | rw [s2_self] | rw [s2_a (by omega)] | rw [s2_k (by omega)])); try (first | rfl | assumption))) rfl) mwSu_init rfl w340 w339 rfl rfl (ble rfl) (ble rfl) (ble rfl) (ble rfl) (ble rfl) dLH_object_48 ?_
  rintro v ⟨sh2, rr2, z2⟩ I2 J2 ⟨rfl, hU, hz2, o1, o2, o3⟩
  have hz2 : z2 = z + 30 := hz2
  subst hz2
  have q0 : ∀ b, b < z → sh2 b = sh b := fun b hb => (o1 b hb).1.trans (by (simp only [g_sh]; (repeat (first | rw [if_neg (by omega)] | rw [if_pos (by omega)] | rw [s2_self] | rw [s2_a (by omega)] | rw [s2_k (by omega)])); try (first | rfl | assumption)))
  have q1 : ∀ b, b < z → rr2 b = r b := fun b hb => (o1 b hb).2.trans (by simp only [g_sh]; rw [if_neg (by omega)])
  have q2 : ∀ b, b < z → I2 b = I b := fun b hb => (o2 b hb).trans (by simp only [z_m]; rw [if_neg (by omega)])
  have q3 : ∀ b, b < z → J2 b = J b := fun b hb => (o3 b hb).trans (by simp only [z_m]; rw [if_neg (by omega)])
  have b0 : sh2 a = (5, 0) := by rw [q0 a (by omega)]; exact a0
  have b1 : sh2 (a + 1) = (14, 6) := by rw [q0 (a + 1) (by omega)]; exact a1
  have s0 : rr2 a 0 = some (a + 1) := by rw [q1 a (by omega)]; exact r0
  have eno : I2 a 11 = nI no := by rw [q2 a (by omega)]; exact hno
  have u0 := hU.1
  refine v_astore_n C 2 dLH_object_51 rfl (ble rfl) rfl ?_
  refine v_aload_n C 0 dLH_object_52 rfl rfl ?_
  refine v_getr C cfLH (k := 0) (by assumption) rfl (by assumption) w111 dLH_object_53 ?_
  refine v_aload_n C 0 dLH_object_56 rfl rfl ?_
  refine v_geti C cfLH (k := 11) (by assumption) rfl w122 dLH_object_57 ?_
  rw [eno]
  refine v_aload_n C 2 dLH_object_60 rfl rfl ?_
  refine v_uast C (a := a + 1) (n := 6) b1 hki u0 dLH_object_61 ?_
  rw [hkc]
  refine v_aload_n C 2 dLH_object_62 rfl rfl ?_
  refine v_iload_n C 1 dLH_object_63 rfl rfl ?_
  refine v_cVv C (c_Su_begin (kl x) (kD x) _ _ _ kind u0) mwSu_begin cfSu (by assumption) w450 w451 w449 rfl rfl (ble rfl) (ble rfl) (ble rfl) (ble rfl) (ble rfl) dLH_object_64 ?_
  have eb : begI I2 z kind a = I2 a := by
    unfold begI
    rw [s2_off (by omega), s2_off (by omega), s2_off (by omega), s2_off (by omega), s2_off (by omega), s2_off (by omega), s2_off (by omega), s2_off (by omega)]
  refine v_aload_n C 0 dLH_object_67 rfl rfl ?_
  refine v_iconst C 0 dLH_object_68 (by decide) ?_
  refine v_puti C cfLH (k := 10) (by assumption) rfl w121 rfl (by first | rfl | assumption) (by first | rfl | assumption) dLH_object_69 ?_
  refine v_aload_n C 0 dLH_object_72 rfl rfl ?_
  refine v_dup C dLH_object_73 rfl ?_
  refine v_geti C cfLH (k := 11) (by assumption) rfl w122 dLH_object_74 ?_
  rw [s2_k (show 11 ≠ 10 by decide), eb, eno]
  refine v_iconst C 1 dLH_object_77 (by decide) ?_
  refine v_iadd C dLH_object_78 ?_
  refine v_puti C cfLH (k := 11) (by assumption) rfl w122 rfl rfl rfl dLH_object_79 ?_
  refine v_aload_n C 0 dLH_object_82 rfl rfl ?_
  refine v_geti C cfLH (k := 11) (by assumption) rfl w122 dLH_object_83 ?_
  rw [s2_self, nI_1]
  refine v_iconst C 1 dLH_object_86 (by decide) ?_
  refine v_isub C dLH_object_87 ?_
  rw [nI_pred]
  refine v_iret C M dLH_object_88 (ble rfl) (ble rfl) ⟨rfl, I2, ?_, rfl, q0, fun b b1 b2 => ?_, ?_, fun j hj => ?_, q2, q3, rfl⟩
  · refine hU.mono (fun b b1 b2 => ⟨rfl, ?_⟩)
    show s2 rr2 (a + 1) no (some z) b = rr2 b
    rw [s2_off (by omega)]
  · show s2 rr2 (a + 1) no (some z) b = r b
    rw [s2_off b2, q1 b b1]
  · exact s2_self _ _ _ _
  · show s2 rr2 (a + 1) no (some z) (a + 1) j = r (a + 1) j
    rw [s2_k hj, q1 (a + 1) (by omega)]
/-! the questions of one object -/
def subQ (g : GM) (a k : Nat) (u : Nat) : Prop := g.2.1 (a + 1) k = some u ∧ SuAt g u ∧ a + 18 ≤ u
theorem c_LH_learnedSubject (l : Launch) (D : va_G) (g : GM) (I : MI) (J : MJ) {a k no u n : Nat} (hA : LHAt g a) (hno : I a 11 = nI no) (hno2 : no ≤ 6) (hk : k < no) (hu : subQ g a k u) (hn : I u 6 = nI n) (hn2 : n ≤ 16) : Ct l yLH_learnedSubject bLH_learnedSubject 3 (some (.object "LinearHistories$Subject")) (rmN 6 149) D [.ref a, .int (nI k)] g I J (fun v g2 I2 J2 => v = some (.ref u) ∧ lrnQ g I J u (a + 6) n none g2 I2 J2) := by
  refine Ct.of (by decide) (ble rfl) [some (.ref a), some (.int (nI k)), none] rfl ?_
  intro x C M
  obtain ⟨a0, a1, a2, a3, a4, a5, hS, a15, a16, a17, r0, r1, r2, r3, r4, r5, r6, r7, r8⟩ := id hA
  have u0 := hu.2.1.1
  refine v_aload_n C 0 dLH_learnedSubject_0 rfl rfl ?_
  refine v_iload_n C 1 dLH_learnedSubject_1 rfl rfl ?_
  refine v_cVr C (c_LH_subjectOf (kl x) (kD x) g I J hA hno hno2 hk hu.1) mwLH_subjectOf cfLH (by assumption) w171 ws0 w169 rfl rfl (ble rfl) (ble rfl) (ble rfl) (ble rfl) (ble rfl) dLH_learnedSubject_2 ?_
  refine v_astore_n C 2 dLH_learnedSubject_5 rfl (ble rfl) rfl ?_
  refine v_aload_n C 2 dLH_learnedSubject_6 rfl rfl ?_
  refine v_aload_n C 0 dLH_learnedSubject_7 rfl rfl ?_
  refine v_getr C cfLH (k := 5) (by assumption) rfl (by assumption) w116 dLH_learnedSubject_8 ?_
  refine v_callV C (c_Su_learn (kl x) (kD x) g I J hu.2.1 hS (by have := hu.2.2; omega) hn hn2) mwSu_learn cfSu (by assumption) w242 w243 w241 rfl rfl (ble rfl) (ble rfl) (ble rfl) (ble rfl) (ble rfl) dLH_learnedSubject_11 ?_
  intro v g2 I2 J2 hq
  have hv := hq.1
  subst hv
  refine v_aload_n C 2 dLH_learnedSubject_14 rfl rfl ?_
  exact v_aret C M dLH_learnedSubject_15 (ble rfl) (ble rfl) ⟨rfl, hq⟩
theorem c_LH_possibilities (l : Launch) (D : va_G) (g : GM) (I : MI) (J : MJ) {a k no u n : Nat} (hA : LHAt g a) (hno : I a 11 = nI no) (hno2 : no ≤ 6) (hk : k < no) (hu : subQ g a k u) (hn : I u 6 = nI n) (hn2 : n ≤ 16) : Ct l yLH_possibilities bLH_possibilities 2 (some .int) (rmN 7 171) D [.ref a, .int (nI k)] g I J (fun v g2 I2 J2 => v = some (.int (I2 u 10)) ∧ lrnQ g I J u (a + 6) n none g2 I2 J2) := by
  refine Ct.of (by decide) (ble rfl) [some (.ref a), some (.int (nI k))] rfl ?_
  intro x C M
  have a0 := hA.1
  have u0 := hu.2.1.1
  refine v_aload_n C 0 dLH_possibilities_0 rfl rfl ?_
  refine v_iload_n C 1 dLH_possibilities_1 rfl rfl ?_
  refine v_callV C (c_LH_learnedSubject (kl x) (kD x) g I J hA hno hno2 hk hu hn hn2) mwLH_learnedSubject cfLH (by assumption) w539 ws15 w537 rfl rfl (ble rfl) (ble rfl) (ble rfl) (ble rfl) (ble rfl) dLH_possibilities_2 ?_
  rintro v g2 I2 J2 ⟨rfl, hq⟩
  have hg := hq.2.1
  subst hg
  refine v_geti C cfSu (k := 10) (by assumption) rfl w398 dLH_possibilities_5 ?_
  exact v_iret C M dLH_possibilities_8 (ble rfl) (ble rfl) ⟨rfl, hq⟩
theorem c_LH_judge (l : Launch) (D : va_G) (g : GM) (I : MI) (J : MJ) {a k no u n : Nat} (hA : LHAt g a) (hno : I a 11 = nI no) (hno2 : no ≤ 6) (hk : k < no) (hu : subQ g a k u) (hn : I u 6 = nI n) (hn2 : n ≤ 16) : Ct l yLH_judge bLH_judge 2 (some .int) (rmN 7 171) D [.ref a, .int (nI k)] g I J (fun v g2 I2 J2 => v = some (.int (I2 u 11)) ∧ lrnQ g I J u (a + 6) n none g2 I2 J2) := by
  refine Ct.of (by decide) (ble rfl) [some (.ref a), some (.int (nI k))] rfl ?_
  intro x C M
  have a0 := hA.1
  have u0 := hu.2.1.1
  refine v_aload_n C 0 dLH_judge_0 rfl rfl ?_
  refine v_iload_n C 1 dLH_judge_1 rfl rfl ?_
  refine v_callV C (c_LH_learnedSubject (kl x) (kD x) g I J hA hno hno2 hk hu hn hn2) mwLH_learnedSubject cfLH (by assumption) w539 ws15 w537 rfl rfl (ble rfl) (ble rfl) (ble rfl) (ble rfl) (ble rfl) dLH_judge_2 ?_
  rintro v g2 I2 J2 ⟨rfl, hq⟩
  have hg := hq.2.1
  subst hg
  refine v_geti C cfSu (k := 11) (by assumption) rfl w400 dLH_judge_5 ?_
  exact v_iret C M dLH_judge_8 (ble rfl) (ble rfl) ⟨rfl, hq⟩
theorem c_LH_lasts (l : Launch) (D : va_G) (g : GM) (I : MI) (J : MJ) {a k no u n : Nat} (hA : LHAt g a) (hno : I a 11 = nI no) (hno2 : no ≤ 6) (hk : k < no) (hu : subQ g a k u) (hn : I u 6 = nI n) (hn2 : n ≤ 16) : Ct l yLH_lasts bLH_lasts 2 (some .int) (rmN 7 171) D [.ref a, .int (nI k)] g I J (fun v g2 I2 J2 => v = some (.int (I2 u 13)) ∧ lrnQ g I J u (a + 6) n none g2 I2 J2) := by
  refine Ct.of (by decide) (ble rfl) [some (.ref a), some (.int (nI k))] rfl ?_
  intro x C M
  have a0 := hA.1
  have u0 := hu.2.1.1
  refine v_aload_n C 0 dLH_lasts_0 rfl rfl ?_
  refine v_iload_n C 1 dLH_lasts_1 rfl rfl ?_
  refine v_callV C (c_LH_learnedSubject (kl x) (kD x) g I J hA hno hno2 hk hu hn hn2) mwLH_learnedSubject cfLH (by assumption) w539 ws15 w537 rfl rfl (ble rfl) (ble rfl) (ble rfl) (ble rfl) (ble rfl) dLH_lasts_2 ?_
  rintro v g2 I2 J2 ⟨rfl, hq⟩
  have hg := hq.2.1
  subst hg
  refine v_geti C cfSu (k := 13) (by assumption) rfl w405 dLH_lasts_5 ?_
  exact v_iret C M dLH_lasts_8 (ble rfl) (ble rfl) ⟨rfl, hq⟩
theorem c_LH_ways (l : Launch) (D : va_G) (g : GM) (I : MI) (J : MJ) {a k no u n : Nat} (hA : LHAt g a) (hno : I a 11 = nI no) (hno2 : no ≤ 6) (hk : k < no) (hu : subQ g a k u) (hn : I u 6 = nI n) (hn2 : n ≤ 16) : Ct l yLH_ways bLH_ways 2 (some .long) (rmN 7 171) D [.ref a, .int (nI k)] g I J (fun v g2 I2 J2 => v = some (.long (J2 u 12)) ∧ lrnQ g I J u (a + 6) n none g2 I2 J2) := by
  refine Ct.of (by decide) (ble rfl) [some (.ref a), some (.int (nI k))] rfl ?_
  intro x C M
  have a0 := hA.1
  have u0 := hu.2.1.1
  refine v_aload_n C 0 dLH_ways_0 rfl rfl ?_
  refine v_iload_n C 1 dLH_ways_1 rfl rfl ?_
  refine v_callV C (c_LH_learnedSubject (kl x) (kD x) g I J hA hno hno2 hk hu hn hn2) mwLH_learnedSubject cfLH (by assumption) w539 ws15 w537 rfl rfl (ble rfl) (ble rfl) (ble rfl) (ble rfl) (ble rfl) dLH_ways_2 ?_
  rintro v g2 I2 J2 ⟨rfl, hq⟩
  have hg := hq.2.1
  subst hg
  refine v_getl C cfSu (k := 12) (by assumption) rfl w403 dLH_ways_5 ?_
  exact v_lret C M dLH_ways_8 (ble rfl) (ble rfl) ⟨rfl, hq⟩
theorem c_LH_judgeOwn (l : Launch) (D : va_G) (g : GM) (I : MI) (J : MJ) {a k no u n : Nat} (hA : LHAt g a) (hno : I a 11 = nI no) (hno2 : no ≤ 6) (hk : k < no) (hu : subQ g a k u) (hn : I u 6 = nI n) (hn2 : n ≤ 16) : Ct l yLH_judgeOwn bLH_judgeOwn 3 (some .int) (rmN 6 149) D [.ref a, .int (nI k)] g I J (fun v g2 I2 J2 => v = some (.int (I2 u 15)) ∧ lroQ g I J u (a + 6) n none g2 I2 J2) := by
  refine Ct.of (by decide) (ble rfl) [some (.ref a), some (.int (nI k)), none] rfl ?_
  intro x C M
  obtain ⟨a0, a1, a2, a3, a4, a5, hS, a15, a16, a17, r0, r1, r2, r3, r4, r5, r6, r7, r8⟩ := id hA
  have u0 := hu.2.1.1
  refine v_aload_n C 0 dLH_judgeOwn_0 rfl rfl ?_
  refine v_iload_n C 1 dLH_judgeOwn_1 rfl rfl ?_
  refine v_cVr C (c_LH_subjectOf (kl x) (kD x) g I J hA hno hno2 hk hu.1) mwLH_subjectOf cfLH (by assumption) w171 ws0 w169 rfl rfl (ble rfl) (ble rfl) (ble rfl) (ble rfl) (ble rfl) dLH_judgeOwn_2 ?_
  refine v_astore_n C 2 dLH_judgeOwn_5 rfl (ble rfl) rfl ?_
  refine v_aload_n C 2 dLH_judgeOwn_6 rfl rfl ?_
  refine v_aload_n C 0 dLH_judgeOwn_7 rfl rfl ?_
  refine v_getr C cfLH (k := 5) (by assumption) rfl (by assumption) w116 dLH_judgeOwn_8 ?_
  refine v_callV C (c_Su_learnOwn (kl x) (kD x) g I J hu.2.1 hS (by have := hu.2.2; omega) hn hn2) mwSu_learnOwn cfSu (by assumption) w556 w557 w555 rfl rfl (ble rfl) (ble rfl) (ble rfl) (ble rfl) (ble rfl) dLH_judgeOwn_11 ?_
  intro v g2 I2 J2 hq
  have hv := hq.1
  subst hv
  have hg := hq.2.1
  subst hg
  refine v_aload_n C 2 dLH_judgeOwn_14 rfl rfl ?_
  refine v_geti C cfSu (k := 15) (by assumption) rfl w407 dLH_judgeOwn_15 ?_
  exact v_iret C M dLH_judgeOwn_18 (ble rfl) (ble rfl) ⟨rfl, hq⟩
theorem c_LH_broken (l : Launch) (D : va_G) (g : GM) (I : MI) (J : MJ) {a k no u n q bl : Nat} {cn : Nat → Nat} (hA : LHAt g a) (hno : I a 11 = nI no) (hno2 : no ≤ 6) (hk : k < no) (hu : subQ g a k u) (hn : I u 6 = nI n) (hn2 : n ≤ 16) (hq : I u 7 = nI q) (hq2 : q ≤ 16) (hbl : I u 16 = nI bl) (hbl2 : bl ≤ q) (hcn : ∀ i, i < q → I (u + 12) i = nI (cn i) ∧ cn i ≤ 16) : Ct l yLH_broken bLH_broken 3 (some .int) (rmN 7 173) D [.ref a, .int (nI k)] g I J (fun v g2 I2 J2 => v = some (.int (I2 u 17)) ∧ lrbQ g I J u (a + 6) n q bl cn none g2 I2 J2) := by
  refine Ct.of (by decide) (ble rfl) [some (.ref a), some (.int (nI k)), none] rfl ?_
  intro x C M
  obtain ⟨a0, a1, a2, a3, a4, a5, hS, a15, a16, a17, r0, r1, r2, r3, r4, r5, r6, r7, r8⟩ := id hA
  have u0 := hu.2.1.1
  refine v_aload_n C 0 dLH_broken_0 rfl rfl ?_
  refine v_iload_n C 1 dLH_broken_1 rfl rfl ?_
  refine v_cVr C (c_LH_subjectOf (kl x) (kD x) g I J hA hno hno2 hk hu.1) mwLH_subjectOf cfLH (by assumption) w171 ws0 w169 rfl rfl (ble rfl) (ble rfl) (ble rfl) (ble rfl) (ble rfl) dLH_broken_2 ?_
  refine v_astore_n C 2 dLH_broken_5 rfl (ble rfl) rfl ?_
  refine v_aload_n C 2 dLH_broken_6 rfl rfl ?_
  refine v_aload_n C 0 dLH_broken_7 rfl rfl ?_
  refine v_getr C cfLH (k := 5) (by assumption) rfl (by assumption) w116 dLH_broken_8 ?_
  refine v_callV C (c_Su_learnBreak (kl x) (kD x) g I J hu.2.1 hS (by have := hu.2.2; omega) hn hn2 hq hq2 hbl hbl2 hcn) mwSu_learnBreak cfSu (by assumption) w581 w582 w580 rfl rfl (ble rfl) (ble rfl) (ble rfl) (ble rfl) (ble rfl) dLH_broken_11 ?_
  intro v g2 I2 J2 hr
  have hv := hr.1
  subst hv
  have hg := hr.2.1
  subst hg
  refine v_aload_n C 2 dLH_broken_14 rfl rfl ?_
  refine v_geti C cfSu (k := 17) (by assumption) rfl w411 dLH_broken_15 ?_
  exact v_iret C M dLH_broken_18 (ble rfl) (ble rfl) ⟨rfl, hr⟩
end
section
/-! what holds of an object's caches -/
def fndS (E : Nat → Nat → Int32) (kind ret : Int32) (n : Nat) (u : Nat) (I : MI) (J : MJ) : Prop :=
  (xrun E kind ret 0 n = none ∧ I u 10 = -2 ∧ J u 12 = -2 ∧ I u 13 = -2 ∧ I u 11 = -2) ∨
  ∃ X, xrun E kind ret 0 n = some X ∧ I u 10 = nI X.1 ∧ J u 12 = wsum ret X.2.1 X.2.2.2 X.1 ∧ I u 13 = nI (sae ret X.2.1 X.2.2.1 X.1).1 ∧ I u 11 = jdg (wsum ret X.2.1 X.2.2.2 X.1) ∧ XIs I J (u + 2) X ∧ KInv X ∧ I (u + 2) 5 = nI n ∧ I (u + 2) 6 = ret ∧ I (u + 2) 7 = 0 ∧ (I (u + 2) 4 = 0 ∨ I (u + 2) 4 = 1 ∧ ∃ h0, ∀ i, I (u + 2 + 8) i = hmark E kind ret 0 n X X.1 h0 i)
def SI (I : MI) (J : MJ) (u n : Nat) : Prop := I u 6 = nI n ∧ n ≤ 16 ∧ (I u 9 = 0 ∨ I u 9 = 1) ∧ (I u 9 = 1 → fndS (opE I u) (I u 5) (I u 8) n u I J)
/-- what learning leaves of an object -/
def lsame (u : Nat) (I : MI) (J : MJ) (I2 : MI) (J2 : MJ) : Prop := (∀ k, k ≠ 9 → k ≠ 10 → k ≠ 11 → k ≠ 13 → I2 u k = I u k) ∧ ∀ b, u < b → (b < u + 2 ∨ u + 11 ≤ b) → b < u + 30 → I2 b = I b
theorem lsame.rf {u : Nat} {I : MI} {J : MJ} : lsame u I J I J := ⟨fun _ _ _ _ _ => rfl, fun _ _ _ _ => rfl⟩
theorem lsame.tr {u : Nat} {I I2 I3 : MI} {J J2 J3 : MJ} (h : lsame u I J I2 J2) (h2 : lsame u I2 J2 I3 J3) : lsame u I J I3 J3 := ⟨fun k a b c d => by rw [h2.1 k a b c d]; exact h.1 k a b c d, fun b q1 q2 q3 => by rw [h2.2 b q1 q2 q3]; exact h.2 b q1 q2 q3⟩
theorem lsame.op {u : Nat} {I I2 : MI} {J J2 : MJ} (h : lsame u I J I2 J2) : ∀ i k, i < 16 → opE I2 u i k = opE I u i k := fun i k hi => by
  show I2 _ _ = I _ _
  rw [h.2 _ (by omega) (by omega) (by omega)]
theorem hmark_congr {E E2 : Nat → Nat → Int32} {kind ret own : Int32} {cnt : Nat} {X : XS} (hc : cnt ≤ 16) (h : ∀ i k, i < 16 → E2 i k = E i k) : ∀ (m : Nat) (hop : Nat → Int32), hmark E2 kind ret own cnt X m hop = hmark E kind ret own cnt X m hop
  | 0, _ => rfl
  | m + 1, hop => by
    have e1 : ∀ p, p < 16 → tgX E2 kind ret own X m p = tgX E kind ret own X m p := fun p hp => by
      unfold tgX
      rw [stp_congr hp h]
    have e2 : ∀ (q p : Nat) (z : Int32), p + q ≤ 16 → hscan (tgX E2 kind ret own X m) hop q p z = hscan (tgX E kind ret own X m) hop q p z := by
      intro q
      induction q with
      | zero => intro p z _; rfl
      | succ q ih =>
        intro p z hp
        simp only [hscan]
        rw [e1 p (by omega), ih (p + 1) _ (by omega)]
    simp only [hmark]
    rw [e2 cnt 0 _ (by omega), hmark_congr hc h m]
theorem fndS_congr {E E2 : Nat → Nat → Int32} {kind ret : Int32} {n u : Nat} {I : MI} {J : MJ} (hn : n ≤ 16) (h : ∀ i k, i < 16 → E2 i k = E i k) (hf : fndS E kind ret n u I J) : fndS E2 kind ret n u I J := by
  unfold fndS at hf ⊢
  rw [xrun_congr hn h]
  rcases hf with hf | ⟨X, h1, h2, h3, h4, h5, h6, h7, h8, h9, h10, h11⟩
  · exact Or.inl hf
  · refine Or.inr ⟨X, h1, h2, h3, h4, h5, h6, h7, h8, h9, h10, ?_⟩
    rcases h11 with h11 | ⟨h11, z, hz⟩
    · exact Or.inl h11
    · exact Or.inr ⟨h11, z, fun i => by rw [hmark_congr hn h]; exact hz i⟩
/-- what is found lies in the block -/
theorem fndS_mem {E : Nat → Nat → Int32} {kind ret : Int32} {n u : Nat} {I I2 : MI} {J J2 : MJ} (h1 : ∀ b, u ≤ b → b < u + 11 → I2 b = I b) (h2 : ∀ b, u ≤ b → b < u + 11 → J2 b = J b) (hf : fndS E kind ret n u I J) : fndS E kind ret n u I2 J2 := by
  have e1 := h1 u (by omega) (by omega)
  have e2 := h2 u (by omega) (by omega)
  have e3 := h1 (u + 2) (by omega) (by omega)
  have e4 := h1 (u + 2 + 8) (by omega) (by omega)
  unfold fndS at hf ⊢
  rw [e1, e2, e3, e4]
  rcases hf with hf | ⟨X, g1, g2, g3, g4, g5, g6, g7⟩
  · exact Or.inl hf
  · refine Or.inr ⟨X, g1, g2, g3, g4, g5, ⟨g6.1.off (fun b b1 b2 => h1 b (by omega) (by omega)) (h2 _ (by omega) (by omega)), ?_⟩, g7⟩
    rw [h1 (u + 2 + 1 + 1) (by omega) (by omega), h2 (u + 2 + 1 + 2) (by omega) (by omega), h2 (u + 2 + 7) (by omega) (by omega)]
    exact g6.2
theorem SI_mem {I I2 : MI} {J J2 : MJ} {u n : Nat} (h1 : ∀ b, u ≤ b → b < u + 30 → I2 b = I b) (h2 : ∀ b, u ≤ b → b < u + 30 → J2 b = J b) (h : SI I J u n) : SI I2 J2 u n := by
  obtain ⟨a1, a2, a3, a4⟩ := h
  have e1 := h1 u (by omega) (by omega)
  refine ⟨by rw [e1]; exact a1, a2, by rw [e1]; exact a3, fun h9 => ?_⟩
  rw [e1] at h9 ⊢
  exact fndS_mem (fun b b1 b2 => h1 b b1 (by omega)) (fun b b1 b2 => h2 b b1 (by omega)) (fndS_congr a2 (fun i k hi => by show I2 _ _ = I _ _; rw [h1 _ (by omega) (by omega)]) (a4 h9))
/-- behind learn() -/
theorem lrn_SI {g g2 : GM} {I I2 : MI} {J J2 : MJ} {u sc n : Nat} {v : Option Value} (h : SI I J u n) (hd : sc + 9 ≤ u ∨ u + 30 ≤ sc) (hq : lrnQ g I J u sc n v g2 I2 J2) : SI I2 J2 u n ∧ I2 u 9 = 1 ∧ lsame u I J I2 J2 ∧ (∀ b, (b < u ∨ u + 30 ≤ b) → (b < sc ∨ sc + 9 ≤ b) → I2 b = I b ∧ J2 b = J b) := by
  obtain ⟨-, -, hq⟩ := hq
  obtain ⟨a1, a2, a3, a4⟩ := id h
  rcases hq with ⟨q1, rfl, rfl⟩ | ⟨q0, q1, q2, q3, q4, q5⟩
  · refine ⟨h, ?_, lsame.rf, fun _ _ _ => ⟨rfl, rfl⟩⟩
    rcases a3 with a3 | a3
    · exact absurd a3 q1
    · exact a3
  · have ls : lsame u I J I2 J2 := ⟨q2, fun b b1 b2 b3 => (q4 b (by omega) (by omega) (by omega)).1⟩
    refine ⟨⟨by rw [q2 6 (by decide) (by decide) (by decide) (by decide)]; exact a1, a2, Or.inr q1, fun _ => ?_⟩, q1, ls, fun b b1 b2 => q4 b (by omega) (by omega) (by omega)⟩
    rw [q2 5 (by decide) (by decide) (by decide) (by decide), q2 8 (by decide) (by decide) (by decide) (by decide)]
    refine fndS_congr a2 ls.op ?_
    rcases q5 with q5 | ⟨X, g1, g2, g3, g4, g5, g6, g7, g8, g9, g10, g11⟩
    · exact Or.inl q5
    · exact Or.inr ⟨X, g1, g2, g3, g4, g5, g6, g7, g9, g10, g11, Or.inl g8⟩
/-- the judgement, of the data alone -/
def jP (E : Nat → Nat → Int32) (kind ret : Int32) (n : Nat) : Int32 := match xrun E kind ret 0 n with
  | none => -2
  | some X => jdg (wsum ret X.2.1 X.2.2.2 X.1)
theorem fndS_j {E : Nat → Nat → Int32} {kind ret : Int32} {n u : Nat} {I : MI} {J : MJ} (h : fndS E kind ret n u I J) : I u 11 = jP E kind ret n := by
  unfold jP
  rcases h with ⟨h1, -, -, -, h5⟩ | ⟨X, h1, -, -, -, h5, -⟩
  · rw [h1]; exact h5
  · rw [h1]; exact h5
def linA (j : Nat → Int32) : Nat → Nat → Int32 → Int32
  | 0, _, ans => ans
  | m + 1, k, ans => if j k = 0 then 0 else linA j m (k + 1) (if j k = -2 then -2 else ans)
/-- the subjects of the objects that there are -/
def SubW (g : GM) (a no : Nat) (sb : Nat → Nat) : Prop := no ≤ 6 ∧ (∀ k, k < no → subQ g a k (sb k)) ∧ ∀ k j, k < j → j < no → sb k + 30 ≤ sb j
abbrev jM (I : MI) (sb cnt : Nat → Nat) (k : Nat) : Int32 := jP (opE I (sb k)) (I (sb k) 5) (I (sb k) 8) (cnt k)
def outW (a no : Nat) (sb : Nat → Nat) (I : MI) (J : MJ) (I2 : MI) (J2 : MJ) : Prop := ∀ b, (∀ k, k < no → b < sb k ∨ sb k + 30 ≤ b) → (b < a + 6 ∨ a + 15 ≤ b) → I2 b = I b ∧ J2 b = J b
def linQ (g : GM) (I : MI) (J : MJ) (a no : Nat) (sb cnt : Nat → Nat) : Option Value → GM → MI → MJ → Prop := fun v g2 I2 J2 => g2 = g ∧ v = some (.int (linA (jM I sb cnt) no 0 1)) ∧ (∀ k, k < no → SI I2 J2 (sb k) (cnt k) ∧ lsame (sb k) I J I2 J2) ∧ outW a no sb I J I2 J2 ∧ (linA (jM I sb cnt) no 0 1 ≠ 0 → ∀ k, k < no → I2 (sb k) 9 = 1)
theorem linA_0 {j : Nat → Int32} : ∀ (m k : Nat) (ans : Int32), ans ≠ 0 → linA j m k ans ≠ 0 → ∀ i, k ≤ i → i < k + m → j i ≠ 0
  | 0, k, _, _, _ => fun i h1 h2 => by omega
  | m + 1, k, ans, ha, h => by
    simp only [linA] at h
    split at h
    · exact absurd rfl h
    · rename_i hk
      intro i h1 h2
      rcases Nat.lt_or_ge k i with h3 | h3
      · refine linA_0 m (k + 1) _ ?_ h i h3 (by omega)
        split
        · decide
        · exact ha
      · have : i = k := by omega
        rw [this]
        exact hk
set_option maxHeartbeats 4000000 in
theorem c_LH_linear (l : Launch) (D : va_G) (g : GM) (I : MI) (J : MJ) {a no : Nat} {sb cnt : Nat → Nat} (hA : LHAt g a) (hno : I a 11 = nI no) (hW : SubW g a no sb) (hSI : ∀ k, k < no → SI I J (sb k) (cnt k)) : Ct l yLH_linear bLH_linear 4 (some .int) (rmN 6 149) D [.ref a] g I J (linQ g I J a no sb cnt) := by
  refine Ct.of (by decide) (ble rfl) [some (.ref a), none, none, none] rfl ?_
  intro x C M
  obtain ⟨a0, a1, a2, a3, a4, a5, hS, a15, a16, a17, r0, r1, r2, r3, r4, r5, r6, r7, r8⟩ := id hA
  obtain ⟨hn6, hsub, hdis⟩ := hW
  have djk : ∀ k j, k < no → j < no → k ≠ j → sb k + 30 ≤ sb j ∨ sb j + 30 ≤ sb k := fun k j hk hj hne => by
    rcases Nat.lt_or_ge k j with h | h
    · exact Or.inl (hdis k j h hj)
    · exact Or.inr (hdis j k (by omega) hk)
  refine v_iconst C 1 dLH_linear_0 (by decide) ?_
  refine v_istore_n C 1 dLH_linear_1 rfl (ble rfl) rfl ?_
  refine v_iconst C 0 dLH_linear_2 (by decide) ?_
  refine v_istore_n C 2 dLH_linear_3 rfl (ble rfl) rfl ?_
  have loop : ∀ (m k : Nat) (ans : Int32) (Ic : MI) (Jc : MJ), k + m = no → ans ≠ 0 → linA (jM I sb cnt) m k ans = linA (jM I sb cnt) no 0 1 → (∀ j, j < no → SI Ic Jc (sb j) (cnt j) ∧ lsame (sb j) I J Ic Jc) → outW a no sb I J Ic Jc → (∀ j, j < k → Ic (sb j) 9 = 1) → V x g 0 0 Ic Jc 4 [some (.ref a), some (.int ans), some (.int (nI k)), none] [] := by
    intro m
    induction m with
    | zero =>
      intro k ans Ic Jc h1 ha he hs ho hl
      have ea : Ic a = I a := (ho a (fun j hj => Or.inl (by have := (hsub j hj).2.2; omega)) (by omega)).1
      refine v_iload_n C 2 dLH_linear_4 rfl rfl ?_
      refine v_aload_n C 0 dLH_linear_5 rfl rfl ?_
      refine v_geti C cfLH (k := 11) (by assumption) rfl w122 dLH_linear_6 ?_
      rw [ea, hno]
      refine v_icmp_ge C 53 dLH_linear_9 (by decide) (fun _ => ?_) (fun h => absurd (nI_le (by omega) (by omega)) h)
      refine v_iload_n C 1 dLH_linear_53 rfl rfl ?_
      exact v_iret C M dLH_linear_54 (ble rfl) (ble rfl) ⟨rfl, by rw [← he]; rfl, hs, ho, fun _ j hj => hl j (by omega)⟩
    | succ m ih =>
      intro k ans Ic Jc h1 ha he hs ho hl
      have hk : k < no := by omega
      obtain ⟨q1, hU, hau⟩ := hsub k hk
      have u0 := hU.1
      have ea : Ic a = I a := (ho a (fun j hj => Or.inl (by have := (hsub j hj).2.2; omega)) (by omega)).1
      refine v_iload_n C 2 dLH_linear_4 rfl rfl ?_
      refine v_aload_n C 0 dLH_linear_5 rfl rfl ?_
      refine v_geti C cfLH (k := 11) (by assumption) rfl w122 dLH_linear_6 ?_
      rw [ea, hno]
      refine v_icmp_ge C 53 dLH_linear_9 (by decide) (fun h => absurd h (nI_ge hk (by omega))) (fun _ => ?_)
      refine v_aload_n C 0 dLH_linear_12 rfl rfl ?_
      refine v_iload_n C 2 dLH_linear_13 rfl rfl ?_
      refine v_cVr C (c_LH_subjectOf (kl x) (kD x) g Ic Jc hA (by rw [ea]; exact hno) hn6 hk q1) mwLH_subjectOf cfLH (by assumption) w171 ws0 w169 rfl rfl (ble rfl) (ble rfl) (ble rfl) (ble rfl) (ble rfl) dLH_linear_14 ?_
      refine v_astore_n C 3 dLH_linear_17 rfl (ble rfl) rfl ?_
      refine v_aload_n C 3 dLH_linear_18 rfl rfl ?_
      refine v_aload_n C 0 dLH_linear_19 rfl rfl ?_
      refine v_getr C cfLH (k := 5) (by assumption) rfl (by assumption) w116 dLH_linear_20 ?_
      refine v_callV C (c_Su_learn (kl x) (kD x) g Ic Jc hU hS (by omega) (hs k hk).1.1 (hs k hk).1.2.1) mwSu_learn cfSu (by assumption) w242 w243 w241 rfl rfl (ble rfl) (ble rfl) (ble rfl) (ble rfl) (ble rfl) dLH_linear_23 ?_
      intro v g2 I2 J2 hq
      have hv := hq.1
      subst hv
      have hg := hq.2.1
      subst hg
      obtain ⟨s1, s9, s3, s4⟩ := lrn_SI (hs k hk).1 (by omega) hq
      have hs2 : ∀ j, j < no → SI I2 J2 (sb j) (cnt j) ∧ lsame (sb j) I J I2 J2 := fun j hj => by
        by_cases hjk : j = k
        · subst hjk
          exact ⟨s1, (hs j hj).2.tr s3⟩
        · have hd := djk j k hj hk hjk
          have hj2 := (hsub j hj).2.2
          refine ⟨SI_mem (fun b b1 b2 => (s4 b (by omega) (by omega)).1) (fun b b1 b2 => (s4 b (by omega) (by omega)).2) (hs j hj).1, (hs j hj).2.tr ⟨fun i _ _ _ _ => by rw [(s4 (sb j) (by omega) (by omega)).1], fun b b1 b2 b3 => (s4 b (by omega) (by omega)).1⟩⟩
      have ho2 : outW a no sb I J I2 J2 := fun b b1 b2 => by
        have h5 := s4 b (b1 k hk) (by omega)
        have h6 := ho b b1 b2
        exact ⟨h5.1.trans h6.1, h5.2.trans h6.2⟩
      have hl2 : ∀ j, j < k + 1 → I2 (sb j) 9 = 1 := fun j hj => by
        by_cases hjk : j = k
        · rw [hjk]; exact s9
        · have hd := djk j k (by omega) hk hjk
          have hj2 := (hsub j (by omega)).2.2
          rw [(s4 (sb j) (by omega) (by omega)).1]
          exact hl j (by omega)
      have ej : I2 (sb k) 11 = jM I sb cnt k := by
        rw [fndS_j (s1.2.2.2 s9)]
        have l2 := (hs2 k hk).2
        unfold jP
        rw [l2.1 5 (by decide) (by decide) (by decide) (by decide), l2.1 8 (by decide) (by decide) (by decide) (by decide), xrun_congr s1.2.1 l2.op]
        rfl
      refine v_aload_n C 3 dLH_linear_26 rfl rfl ?_
      refine v_geti C cfSu (k := 11) (by assumption) rfl w400 dLH_linear_27 ?_
      rw [ej]
      by_cases hz : jM I sb cnt k = 0
      · rw [hz]
        refine v_if_ne C 35 dLH_linear_30 (by decide) (fun h => absurd rfl h) (fun _ => ?_)
        refine v_iconst C 0 dLH_linear_33 (by decide) ?_
        have e0 : linA (jM I sb cnt) no 0 1 = 0 := by
          rw [← he]
          simp only [linA, if_pos hz]
        exact v_iret C M dLH_linear_34 (ble rfl) (ble rfl) ⟨rfl, by rw [e0], hs2, ho2, fun h => absurd e0 h⟩
      · refine v_if_ne C 35 dLH_linear_30 (by decide) (fun _ => ?_) (fun h => absurd h hz)
        refine v_aload_n C 3 dLH_linear_35 rfl rfl ?_
        refine v_geti C cfSu (k := 11) (by assumption) rfl w400 dLH_linear_36 ?_
        rw [ej]
        refine v_bipush C (-2) dLH_linear_39 (by decide) ?_
        by_cases hm : jM I sb cnt k = -2
        · rw [hm]
          refine v_icmp_ne C 47 dLH_linear_41 (by decide) (fun h => absurd rfl h) (fun _ => ?_)
          refine v_bipush C (-2) dLH_linear_44 (by decide) ?_
          refine v_istore_n C 1 dLH_linear_46 rfl (ble rfl) rfl ?_
          refine v_iinc C (nI (k + 1)) dLH_linear_47 rfl (nI_1 k) (ble rfl) rfl ?_
          refine v_goto C 4 dLH_linear_50 (by decide) ?_
          refine V.drop (lv2 := [some (.ref a), some (.int (-2)), some (.int (nI (k + 1))), none]) ?_ ⟨rfl, rfl, rfl, trivial⟩
          refine ih (k + 1) (-2) I2 J2 (by omega) (by decide) ?_ hs2 ho2 hl2
          rw [← he]
          simp only [linA, if_neg hz, if_pos hm]
        · refine v_icmp_ne C 47 dLH_linear_41 (by decide) (fun _ => ?_) (fun h => absurd h hm)
          refine v_iinc C (nI (k + 1)) dLH_linear_47 rfl (nI_1 k) (ble rfl) rfl ?_
          refine v_goto C 4 dLH_linear_50 (by decide) ?_
          refine V.drop (lv2 := [some (.ref a), some (.int ans), some (.int (nI (k + 1))), none]) ?_ ⟨rfl, rfl, rfl, trivial⟩
          refine ih (k + 1) ans I2 J2 (by omega) ha ?_ hs2 ho2 hl2
          rw [← he]
          simp only [linA, if_neg hz, if_neg hm]
  exact loop no 0 1 I J (by omega) (by decide) rfl (fun k hk => ⟨hSI k hk, lsame.rf⟩) (fun _ _ _ => ⟨rfl, rfl⟩) (fun j hj => absurd hj (Nat.not_lt_zero j))
end
section
/-! THE ROW, of the data: how many objects, operations; owner, place, earlier; an object's operations, kind, returned, possibilities, hopes -/
abbrev RD : Type := Nat × Nat × (Nat → Nat) × (Nat → Nat) × (Nat → Int64) × (Nat → Nat → Nat → Int32) × (Nat → Int32) × (Nat → Int32) × (Nat → XS) × (Nat → Nat → Int32)
abbrev dno (d : RD) : Nat := d.1
abbrev dnp (d : RD) : Nat := d.2.1
abbrev dow (d : RD) : Nat → Nat := d.2.2.1
abbrev dpl (d : RD) : Nat → Nat := d.2.2.2.1
abbrev der (d : RD) : Nat → Int64 := d.2.2.2.2.1
abbrev dE (d : RD) : Nat → Nat → Nat → Int32 := d.2.2.2.2.2.1
abbrev dkd (d : RD) : Nat → Int32 := d.2.2.2.2.2.2.1
abbrev drt (d : RD) : Nat → Int32 := d.2.2.2.2.2.2.2.1
abbrev dX (d : RD) : Nat → XS := d.2.2.2.2.2.2.2.2.1
abbrev dhp (d : RD) : Nat → Nat → Int32 := d.2.2.2.2.2.2.2.2.2
def cnd (d : RD) (placed : Int64) (rc : Nat → Nat) (i : Nat) : Option (Nat × Int32) :=
  if jushr placed (nI i) &&& 1 = 0 ∧ der d i &&& (placed ^^^ (-1)) = 0 then
    (match stp (dE d (dow d i)) (dkd d (dow d i)) (drt d (dow d i)) 0 ((dX d (dow d i)).2.1 (rc (dow d i))) ((dX d (dow d i)).2.2.1 (rc (dow d i))) (dpl d i) with
    | none => none
    | some c => if lk (dX d (dow d i)).2.1 (dX d (dow d i)).2.2.1 (keyB ((dX d (dow d i)).2.1 (rc (dow d i))) (dpl d i) c.2.1) c.1 (dX d (dow d i)).1 = -1 then none
      else if dhp d (dow d i) (ix (lk (dX d (dow d i)).2.1 (dX d (dow d i)).2.2.1 (keyB ((dX d (dow d i)).2.1 (rc (dow d i))) (dpl d i) c.2.1) c.1 (dX d (dow d i)).1)) = 0 then none
      else some (ix (lk (dX d (dow d i)).2.1 (dX d (dow d i)).2.2.1 (keyB ((dX d (dow d i)).2.1 (rc (dow d i))) (dpl d i) c.2.1) c.1 (dX d (dow d i)).1), c.2.2))
  else none
def fstC (c : Nat → Option (Nat × Int32)) : Nat → Nat → Option (Nat × Nat × Int32)
  | 0, _ => none
  | m + 1, i => match c i with
    | none => fstC c m (i + 1)
    | some q => some (i, q.1, q.2)
def allA (e : Nat → Int32) : Nat → Nat → Int32
  | 0, _ => 1
  | m + 1, k => if e k = 0 then 0 else allA e m (k + 1)
def endE (d : RD) (rc : Nat → Nat) (k : Nat) : Int32 := if isE (drt d k) ((dX d k).2.1 (rc k)) then 1 else 0
abbrev BS : Type := Nat × (Nat → Int32) × (Nat → Int32)
def brw (d : RD) : Nat → Int64 → (Nat → Nat) → BS → BS
  | 0, _, _, b => b
  | m + 1, placed, rc, b => if allA (endE d rc) (dno d) 0 ≠ 0 then b else (match fstC (cnd d placed rc) (dnp d) 0 with
    | none => b
    | some (i, t, res) => brw d m (placed ||| jshl 1 (nI i)) (upF rc (dow d i) t) (b.1 + 1, upF b.2.1 b.1 (nI i), upF b.2.2 b.1 res))
/-- the memory that the row is made of: nothing of it changes but the states' cells and the row's own -/
def RW (g : GM) (a : Nat) (sb cnt : Nat → Nat) (d : RD) (I : MI) (J : MJ) : Prop := SubW g a (dno d) sb ∧ I a 11 = nI (dno d) ∧ I a 12 = nI (dnp d) ∧ dnp d ≤ 48 ∧
  (∀ i, i < dnp d → I (a + 2) i = nI (dow d i) ∧ dow d i < dno d ∧ I (a + 3) i = nI (dpl d i) ∧ dpl d i < 16 ∧ J (a + 4) i = der d i) ∧
  ∀ k, k < dno d → (∀ i q, i < 16 → I (sb k + 14 + i) q = dE d k i q) ∧ I (sb k) 5 = dkd d k ∧ I (sb k) 8 = drt d k ∧ XIs I J (sb k + 2) (dX d k) ∧ KInv (dX d k) ∧ I (sb k + 2) 6 = drt d k ∧ I (sb k + 2) 7 = 0 ∧ ∀ i, I (sb k + 2 + 8) i = dhp d k i
/-- what placing leaves -/
def rsame (a no : Nat) (sb : Nat → Nat) (I : MI) (J : MJ) (I2 : MI) (J2 : MJ) : Prop := (∀ b, b ≠ a → b ≠ a + 15 → b ≠ a + 16 → b ≠ a + 17 → (∀ k, k < no → b ≠ sb k + 2 + 6) → I2 b = I b) ∧ (∀ q, q ≠ 9 → q ≠ 10 → I2 a q = I a q) ∧ ∀ b, (∀ k, k < no → b ≠ sb k + 2 + 6) → J2 b = J b
theorem rsame.rf {a no : Nat} {sb : Nat → Nat} {I : MI} {J : MJ} : rsame a no sb I J I J := ⟨fun _ _ _ _ _ _ => rfl, fun _ _ _ => rfl, fun _ _ => rfl⟩
theorem rsame.tr {a no : Nat} {sb : Nat → Nat} {I I2 I3 : MI} {J J2 J3 : MJ} (h : rsame a no sb I J I2 J2) (h2 : rsame a no sb I2 J2 I3 J3) : rsame a no sb I J I3 J3 := ⟨fun b b1 b2 b3 b4 b5 => by rw [h2.1 b b1 b2 b3 b4 b5]; exact h.1 b b1 b2 b3 b4 b5, fun q q1 q2 => by rw [h2.2.1 q q1 q2]; exact h.2.1 q q1 q2, fun b b1 => by rw [h2.2.2 b b1]; exact h.2.2 b b1⟩
theorem subw_ne {g : GM} {a no : Nat} {sb : Nat → Nat} (hW : SubW g a no sb) {k j : Nat} (hk : k < no) (hj : j < no) {c : Nat} (hc : c < 30) (hne : c ≠ 8 ∨ k ≠ j) : sb k + c ≠ sb j + 2 + 6 := by
  by_cases h : k = j
  · subst h
    rcases hne with h1 | h1
    · omega
    · exact absurd rfl h1
  · rcases Nat.lt_or_ge k j with h2 | h2
    · have := hW.2.2 k j h2 hj; omega
    · have := hW.2.2 j k (by omega) hk; omega
theorem RW.same {g : GM} {a : Nat} {sb cnt : Nat → Nat} {d : RD} {I I2 : MI} {J J2 : MJ} (h : RW g a sb cnt d I J) (hs : rsame a (dno d) sb I J I2 J2) : RW g a sb cnt d I2 J2 := by
  obtain ⟨hW, h1, h2, h3, h4, h5⟩ := h
  have hau : ∀ k, k < dno d → a + 18 ≤ sb k := fun k hk => (hW.2.1 k hk).2.2
  have eI : ∀ b, b ≠ a → b < a + 15 → I2 b = I b := fun b b1 b2 => hs.1 b b1 (by omega) (by omega) (by omega) (fun k hk => by have := hau k hk; omega)
  refine ⟨hW, by rw [hs.2.1 11 (by decide) (by decide)]; exact h1, by rw [hs.2.1 12 (by decide) (by decide)]; exact h2, h3, fun i hi => ?_, fun k hk => ?_⟩
  · rw [eI (a + 2) (by omega) (by omega), eI (a + 3) (by omega) (by omega), hs.2.2 (a + 4) (fun k hk => by have := hau k hk; omega)]
    exact h4 i hi
  · obtain ⟨e1, e2, e3, e4, e5, e6, e7, e8⟩ := h5 k hk
    have hk2 := hau k hk
    have eS : ∀ c, c < 30 → c ≠ 8 → I2 (sb k + c) = I (sb k + c) := fun c hc hc8 => hs.1 _ (by omega) (by omega) (by omega) (by omega) (fun j hj => subw_ne hW hk hj hc (Or.inl hc8))
    have eT : ∀ c, c < 30 → c ≠ 8 → J2 (sb k + c) = J (sb k + c) := fun c hc hc8 => hs.2.2 _ (fun j hj => subw_ne hW hk hj hc (Or.inl hc8))
    have e0 : I2 (sb k) = I (sb k) := eS 0 (by omega) (by decide)
    have e22 : I2 (sb k + 2) = I (sb k + 2) := eS 2 (by omega) (by decide)
    refine ⟨fun i q hi => ?_, by rw [e0]; exact e2, by rw [e0]; exact e3, ⟨e4.1.off (fun b b1 b2 => ?_) ?_, ?_⟩, e5, by rw [e22]; exact e6, by rw [e22]; exact e7, ?_⟩
    · have h9 := eS (14 + i) (by omega) (by omega)
      rw [← Nat.add_assoc] at h9
      rw [h9]
      exact e1 i q hi
    · obtain ⟨c, rfl⟩ : ∃ c, b = sb k + c := ⟨b - sb k, by omega⟩
      exact eS c (by omega) (by omega)
    · exact eT 5 (by omega) (by decide)
    · have h9 : I2 (sb k + 2 + 1 + 1) = I (sb k + 2 + 1 + 1) := eS 4 (by omega) (by decide)
      have h10 : J2 (sb k + 2 + 1 + 2) = J (sb k + 2 + 1 + 2) := eT 5 (by omega) (by decide)
      have h11 : J2 (sb k + 2 + 7) = J (sb k + 2 + 7) := eT 9 (by omega) (by decide)
      rw [h9, h10, h11]
      exact e4.2
    · have h9 : I2 (sb k + 2 + 8) = I (sb k + 2 + 8) := eS 10 (by omega) (by decide)
      rw [h9]
      exact e8
def rcOK (a : Nat) (d : RD) (rc : Nat → Nat) (I : MI) : Prop := ∀ k, k < dno d → I (a + 17) k = nI (rc k) ∧ rc k < (dX d k).1
set_option maxHeartbeats 4000000 in
theorem c_LH_allAtEnds (l : Launch) (D : va_G) (g : GM) (I : MI) (J : MJ) {a : Nat} {sb cnt : Nat → Nat} {d : RD} {rc : Nat → Nat} (hA : LHAt g a) (hR : RW g a sb cnt d I J) (hrc : rcOK a d rc I) : Ct l yLH_allAtEnds bLH_allAtEnds 2 (some .boolean) (rmN 1 21) D [.ref a] g I J (PF (some (.int (allA (endE d rc) (dno d) 0))) g I J) := by
  refine Ct.of (by decide) (ble rfl) [some (.ref a), none] rfl ?_
  intro x C M
  obtain ⟨a0, a1, a2, a3, a4, a5, hS, a15, a16, a17, r0, r1, r2, r3, r4, r5, r6, r7, r8⟩ := id hA
  obtain ⟨hW, h11, h12, h48, hop, hsu⟩ := hR
  have h6 := hW.1
  refine v_iconst C 0 dLH_allAtEnds_0 (by decide) ?_
  refine v_istore_n C 1 dLH_allAtEnds_1 rfl (ble rfl) rfl ?_
  have loop : ∀ (m k : Nat), k + m = dno d → allA (endE d rc) m k = allA (endE d rc) (dno d) 0 → V x g 0 0 I J 2 [some (.ref a), some (.int (nI k))] [] := by
    intro m
    induction m with
    | zero =>
      intro k h1 he
      refine v_iload_n C 1 dLH_allAtEnds_2 rfl rfl ?_
      refine v_aload_n C 0 dLH_allAtEnds_3 rfl rfl ?_
      refine v_geti C cfLH (k := 11) (by assumption) rfl w122 dLH_allAtEnds_4 ?_
      rw [h11]
      refine v_icmp_ge C 38 dLH_allAtEnds_7 (by decide) (fun _ => ?_) (fun h => absurd (nI_le (by omega) (by omega)) h)
      refine v_iconst C 1 dLH_allAtEnds_38 (by decide) ?_
      exact v_zret C M (by first | exact Or.inl rfl | exact Or.inr rfl | assumption) dLH_allAtEnds_39 (ble rfl) (ble rfl) (pf_i (by rw [← he]; rfl) rfl rfl)
    | succ m ih =>
      intro k h1 he
      have hk : k < dno d := by omega
      obtain ⟨q1, hU, hau⟩ := hW.2.1 k hk
      obtain ⟨u0, hO, hSp, u11, u12, u13, ur0, ur1, ur2, ur3, ur4⟩ := id hU
      have s0 := hSp.1
      have hkc : (nI k).toNatClampNeg = k := nI_clamp (by omega)
      have hki : vp_in (nI k) 6 := vp_in_nI (by omega) (by decide)
      have hb := (hsu k hk).2.2.2.2.1.1
      have hf : rc k < 2000 := by have := (hrc k hk).2; omega
      refine v_iload_n C 1 dLH_allAtEnds_2 rfl rfl ?_
      refine v_aload_n C 0 dLH_allAtEnds_3 rfl rfl ?_
      refine v_geti C cfLH (k := 11) (by assumption) rfl w122 dLH_allAtEnds_4 ?_
      rw [h11]
      refine v_icmp_ge C 38 dLH_allAtEnds_7 (by decide) (fun h => absurd h (nI_ge hk (by omega))) (fun _ => ?_)
      refine v_aload_n C 0 dLH_allAtEnds_10 rfl rfl ?_
      refine v_iload_n C 1 dLH_allAtEnds_11 rfl rfl ?_
      refine v_cVr C (c_LH_subjectOf (kl x) (kD x) g I J hA h11 h6 hk q1) mwLH_subjectOf cfLH (by assumption) w171 ws0 w169 rfl rfl (ble rfl) (ble rfl) (ble rfl) (ble rfl) (ble rfl) dLH_allAtEnds_12 ?_
      refine v_getr C cfSu (k := 1) (by assumption) rfl (by assumption) w387 dLH_allAtEnds_15 ?_
      refine v_aload_n C 0 dLH_allAtEnds_18 rfl rfl ?_
      refine v_getr C cfLH (k := 8) (by assumption) rfl (by assumption) w119 dLH_allAtEnds_19 ?_
      refine v_iload_n C 1 dLH_allAtEnds_22 rfl rfl ?_
      refine v_iald C (by assumption) (by assumption) dLH_allAtEnds_23 ?_
      rw [hkc, (hrc k hk).1]
      refine v_cVi C (c_Sp_isEnd (kl x) (kD x) g I J hSp hf) mwSp_isEnd cfSp (by assumption) w321 w322 w618 rfl rfl (ble rfl) (ble rfl) (ble rfl) (ble rfl) (ble rfl) dLH_allAtEnds_24 ?_
      have ee : (if isE (I (sb k + 2) 6) (I (sb k + 2 + 1 + 1) (rc k)) then (1 : Int32) else 0) = endE d rc k := by
        unfold endE
        rw [(hsu k hk).2.2.2.2.2.1, ((hsu k hk).2.2.2.1.2 (rc k) (hrc k hk).2).1]
      rw [ee]
      by_cases hz : endE d rc k = 0
      · rw [hz]
        refine v_if_ne C 32 dLH_allAtEnds_27 (by decide) (fun h => absurd rfl h) (fun _ => ?_)
        refine v_iconst C 0 dLH_allAtEnds_30 (by decide) ?_
        exact v_zret C M (by first | exact Or.inl rfl | exact Or.inr rfl | assumption) dLH_allAtEnds_31 (ble rfl) (ble rfl) (pf_i (by rw [← he]; simp only [allA, if_pos hz]) rfl rfl)
      · refine v_if_ne C 32 dLH_allAtEnds_27 (by decide) (fun _ => ?_) (fun h => absurd h hz)
        refine v_iinc C (nI (k + 1)) dLH_allAtEnds_32 rfl (nI_1 k) (ble rfl) rfl ?_
        refine v_goto C 2 dLH_allAtEnds_35 (by decide) ?_
        refine ih (k + 1) (by omega) ?_
        rw [← he]
        simp only [allA, if_neg hz]
  exact loop (dno d) 0 (by omega) rfl
end
section
def pnQ (g : GM) (I : MI) (J : MJ) (a : Nat) (sb : Nat → Nat) (d : RD) (placed : Int64) (rc : Nat → Nat) (len : Nat) : Option Value → GM → MI → MJ → Prop := fun v g2 I2 J2 => g2 = g ∧ rsame a (dno d) sb I J I2 J2 ∧ I2 a = I a ∧ (fstC (cnd d placed rc) (dnp d) 0 = none ∧ v = some (.int (-1)) ∧ I2 (a + 15) = I (a + 15) ∧ I2 (a + 16) = I (a + 16) ∧ I2 (a + 17) = I (a + 17) ∨ ∃ i t res, fstC (cnd d placed rc) (dnp d) 0 = some (i, t, res) ∧ v = some (.int (nI i)) ∧ i < dnp d ∧ t < (dX d (dow d i)).1 ∧ I2 (a + 17) = upF (I (a + 17)) (dow d i) (nI t) ∧ I2 (a + 15) = upF (I (a + 15)) len (nI i) ∧ I2 (a + 16) = upF (I (a + 16)) len res)
theorem s2_upF {α : Type} (f : Nat → Nat → α) (a k : Nat) (v : α) : s2 f a k v a = upF (f a) k v := by
  rw [s2_row]
  rfl
set_option maxHeartbeats 8000000 in
theorem c_LH_placeNext (l : Launch) (D : va_G) (g : GM) (I : MI) (J : MJ) {a len : Nat} {sb cnt : Nat → Nat} {d : RD} {rc : Nat → Nat} (placed : Int64) (hA : LHAt g a) (hR : RW g a sb cnt d I J) (hrc : rcOK a d rc I) (hlen : I a 9 = nI len) (hlen2 : len < 48) : Ct l yLH_placeNext bLH_placeNext 8 (some .int) (rmN 5 123) D [.ref a, .long placed] g I J (pnQ g I J a sb d placed rc len) := by
  refine Ct.of (by decide) (ble rfl) [some (.ref a), some (.long placed), none, none, none, none, none, none] rfl ?_
  intro x C M
  obtain ⟨a0, a1, a2, a3, a4, a5, hS, a15, a16, a17, r0, r1, r2, r3, r4, r5, r6, r7, r8⟩ := id hA
  have hW := hR.1
  have h6 := hW.1
  have h48 := hR.2.2.2.1
  have hau : ∀ k, k < dno d → a + 18 ≤ sb k := fun k hk => (hW.2.1 k hk).2.2
  have hlc : (nI len).toNatClampNeg = len := nI_clamp (by omega)
  have hli : vp_in (nI len) 48 := vp_in_nI hlen2 (by decide)
  refine v_iconst C 0 dLH_placeNext_0 (by decide) ?_
  refine v_istore_n C 3 dLH_placeNext_1 rfl (ble rfl) rfl ?_
  have loop : ∀ (m i : Nat) (Ic : MI) (Jc : MJ), i + m = dnp d → fstC (cnd d placed rc) m i = fstC (cnd d placed rc) (dnp d) 0 → (∀ b, (∀ k, k < dno d → b ≠ sb k + 2 + 6) → Ic b = I b) → (∀ b, (∀ k, k < dno d → b ≠ sb k + 2 + 6) → Jc b = J b) → V x g 0 0 Ic Jc 2 [some (.ref a), some (.long placed), none, some (.int (nI i)), none, none, none, none] [] := by
    intro m
    induction m with
    | zero =>
      intro i Ic Jc h1 he e1 e2
      have eb : ∀ b, b < a + 18 → Ic b = I b := fun b hb => e1 b (fun k hk => by have := hau k hk; omega)
      refine v_iload_n C 3 dLH_placeNext_2 rfl rfl ?_
      refine v_aload_n C 0 dLH_placeNext_3 rfl rfl ?_
      refine v_geti C cfLH (k := 12) (by assumption) rfl w123 dLH_placeNext_4 ?_
      rw [eb a (by omega), hR.2.2.1]
      refine v_icmp_ge C 160 dLH_placeNext_7 (by decide) (fun _ => ?_) (fun h => absurd (nI_le (by omega) (by omega)) h)
      refine v_iconst C (-1) dLH_placeNext_160 (by decide) ?_
      refine v_iret C M dLH_placeNext_161 (ble rfl) (ble rfl) ⟨rfl, ⟨fun b _ _ _ _ hb => e1 b hb, fun q _ _ => by rw [eb a (by omega)], e2⟩, eb a (by omega), Or.inl ⟨by rw [← he]; rfl, rfl, eb _ (by omega), eb _ (by omega), eb _ (by omega)⟩⟩
    | succ m ih =>
      intro i Ic Jc h1 he e1 e2
      have hi : i < dnp d := by omega
      have eb : ∀ b, b < a + 18 → Ic b = I b := fun b hb => e1 b (fun k hk => by have := hau k hk; omega)
      have ej : ∀ b, b < a + 18 → Jc b = J b := fun b hb => e2 b (fun k hk => by have := hau k hk; omega)
      have hic : (nI i).toNatClampNeg = i := nI_clamp (by omega)
      have hii : vp_in (nI i) 48 := vp_in_nI (by omega) (by decide)
      have hRc : RW g a sb cnt d Ic Jc := hR.same ⟨fun b _ _ _ _ hb => e1 b hb, fun q _ _ => by rw [eb a (by omega)], e2⟩
      obtain ⟨o1, o2, o3, o4, o5⟩ := hRc.2.2.2.2.1 i hi
      have next : ∀ (I4 : MI) (J4 : MJ) (z4 z5 z6 z7 : Option Value), (∀ b, (∀ k, k < dno d → b ≠ sb k + 2 + 6) → I4 b = I b) → (∀ b, (∀ k, k < dno d → b ≠ sb k + 2 + 6) → J4 b = J b) → cnd d placed rc i = none → V x g 0 0 I4 J4 154 [some (.ref a), some (.long placed), none, some (.int (nI i)), z4, z5, z6, z7] [] := by
        intro I4 J4 z4 z5 z6 z7 q1 q2 q3
        refine v_iinc C (nI (i + 1)) dLH_placeNext_154 rfl (nI_1 i) (ble rfl) rfl ?_
        refine v_goto C 2 dLH_placeNext_157 (by decide) ?_
        refine V.drop (lv2 := [some (.ref a), some (.long placed), none, some (.int (nI (i + 1))), none, none, none, none]) ?_ ⟨rfl, rfl, rfl, trivial⟩
        refine ih (i + 1) I4 J4 (by omega) ?_ q1 q2
        rw [← he]
        simp only [fstC, q3]
      refine v_iload_n C 3 dLH_placeNext_2 rfl rfl ?_
      refine v_aload_n C 0 dLH_placeNext_3 rfl rfl ?_
      refine v_geti C cfLH (k := 12) (by assumption) rfl w123 dLH_placeNext_4 ?_
      rw [eb a (by omega), hR.2.2.1]
      refine v_icmp_ge C 160 dLH_placeNext_7 (by decide) (fun h => absurd h (nI_ge hi (by omega))) (fun _ => ?_)
      refine v_lload_n C 1 dLH_placeNext_10 rfl rfl ?_
      refine v_iload_n C 3 dLH_placeNext_11 rfl rfl ?_
      refine v_lushr C dLH_placeNext_12 ?_
      refine v_lconst C 1 dLH_placeNext_13 (by decide) ?_
      refine v_land C dLH_placeNext_14 ?_
      refine v_lconst C 0 dLH_placeNext_15 (by decide) ?_
      refine v_lcmp C dLH_placeNext_16 ?_
      have at25 : ∀ z : Int32, (z = 0 ↔ jushr placed (nI i) &&& 1 = 0) → V x g 0 0 Ic Jc 25 [some (.ref a), some (.long placed), none, some (.int (nI i)), none, none, none, none] [.int z] := by
        intro z hz
        refine v_istore C dLH_placeNext_25 (ble rfl) rfl ?_
        refine v_iload C dLH_placeNext_27 rfl ?_
        by_cases hz0 : z = 0
        · rw [hz0]
          refine v_if_ne C 154 dLH_placeNext_29 (by decide) (fun h => absurd rfl h) (fun _ => ?_)
          have hbit := hz.mp hz0
          refine v_aload_n C 0 dLH_placeNext_32 rfl rfl ?_
          refine v_getr C cfLH (k := 3) (by assumption) rfl (by assumption) w114 dLH_placeNext_33 ?_
          refine v_iload_n C 3 dLH_placeNext_36 rfl rfl ?_
          refine v_lald C (by assumption) (by assumption) dLH_placeNext_37 ?_
          refine v_lload_n C 1 dLH_placeNext_38 rfl rfl ?_
          refine v_ldc2 C w623 dLH_placeNext_39 ?_
          refine v_lxor C dLH_placeNext_42 ?_
          refine v_land C dLH_placeNext_43 ?_
          refine v_lconst C 0 dLH_placeNext_44 (by decide) ?_
          refine v_lcmp C dLH_placeNext_45 ?_
          rw [hic, o5]
          by_cases her : der d i &&& (placed ^^^ (-1)) = 0
          · rw [her]
            refine v_if_eq C 52 dLH_placeNext_46 (by decide) (fun _ => ?_) (fun h => absurd (by decide) h)
            refine v_aload_n C 0 dLH_placeNext_52 rfl rfl ?_
            refine v_getr C cfLH (k := 1) (by assumption) rfl (by assumption) w112 dLH_placeNext_53 ?_
            refine v_iload_n C 3 dLH_placeNext_56 rfl rfl ?_
            refine v_iald C (by assumption) (by assumption) dLH_placeNext_57 ?_
            rw [hic, o1]
            obtain ⟨q1, hU, hauk⟩ := hW.2.1 _ o2
            obtain ⟨u0, hO, hSp, u11, u12, u13, ur0, ur1, ur2, ur3, ur4⟩ := id hU
            obtain ⟨s0, hTa, s6, s7, s8, sr0, sr1, sr2, sr3⟩ := id hSp
            obtain ⟨f1, f2, f3, f4, f5, f6, f7, f8⟩ := hRc.2.2.2.2.2 _ o2
            have hbk := f5.1
            obtain ⟨g1, g2⟩ := hrc _ o2
            have hkc : (nI (dow d i)).toNatClampNeg = dow d i := nI_clamp (by omega)
            have hki : vp_in (nI (dow d i)) 6 := vp_in_nI (by omega) (by decide)
            have hf2 : rc (dow d i) < 2000 := by omega
            obtain ⟨m9, sz9, kg⟩ := f5.2 _ g2
            have ek := (f4.2 _ g2).1
            have ew := (f4.2 _ g2).2.1
            have estp : stp (opE Ic (sb (dow d i))) (Ic (sb (dow d i)) 5) (Ic (sb (dow d i) + 2) 6) (Ic (sb (dow d i) + 2) 7) (Ic (sb (dow d i) + 2 + 1 + 1) (rc (dow d i))) (Jc (sb (dow d i) + 2 + 1 + 2) (rc (dow d i))) (dpl d i) = stp (dE d (dow d i)) (dkd d (dow d i)) (drt d (dow d i)) 0 ((dX d (dow d i)).2.1 (rc (dow d i))) ((dX d (dow d i)).2.2.1 (rc (dow d i))) (dpl d i) := by
              rw [ek, ew, f2, f6, f7]
              exact stp_congr o4 (fun i q hi => f1 i q hi)
            refine v_istore C dLH_placeNext_58 (ble rfl) rfl ?_
            refine v_aload_n C 0 dLH_placeNext_60 rfl rfl ?_
            refine v_iload C dLH_placeNext_61 rfl ?_
            refine v_cVr C (c_LH_subjectOf (kl x) (kD x) g Ic Jc hA hRc.2.1 h6 o2 q1) mwLH_subjectOf cfLH (by assumption) w171 ws0 w169 rfl rfl (ble rfl) (ble rfl) (ble rfl) (ble rfl) (ble rfl) dLH_placeNext_63 ?_
            refine v_astore C dLH_placeNext_66 (ble rfl) rfl ?_
            refine v_aload C dLH_placeNext_68 rfl ?_
            refine v_getr C cfSu (k := 1) (by assumption) rfl (by assumption) w387 dLH_placeNext_70 ?_
            refine v_aload C dLH_placeNext_73 rfl ?_
            refine v_aload_n C 0 dLH_placeNext_75 rfl rfl ?_
            refine v_getr C cfLH (k := 8) (by assumption) rfl (by assumption) w119 dLH_placeNext_76 ?_
            refine v_iload C dLH_placeNext_79 rfl ?_
            refine v_iald C (by assumption) (by assumption) dLH_placeNext_81 ?_
            rw [hkc, eb (a + 17) (by omega), g1]
            refine v_aload_n C 0 dLH_placeNext_82 rfl rfl ?_
            refine v_getr C cfLH (k := 2) (by assumption) rfl (by assumption) w113 dLH_placeNext_83 ?_
            refine v_iload_n C 3 dLH_placeNext_86 rfl rfl ?_
            refine v_iald C (by assumption) (by assumption) dLH_placeNext_87 ?_
            rw [hic, o3]
            refine v_callV C (c_Sp_target (kl x) (kD x) g Ic Jc hSp hU hf2 o4 (by rw [ek]; exact kg.1.size) kg.1.2.2 f4.1) mwSp_target cfSp (by assumption) w607 w608 w624 rfl rfl (ble rfl) (ble rfl) (ble rfl) (ble rfl) (ble rfl) dLH_placeNext_88 ?_
            rintro v g3 I3 J3 ⟨rfl, ho, hc⟩
            rw [estp] at hc
            have p1 : ∀ b, (∀ k, k < dno d → b ≠ sb k + 2 + 6) → I3 b = I b := fun b hb => by rw [ho.1 b (hb _ o2)]; exact e1 b hb
            have p2 : ∀ b, (∀ k, k < dno d → b ≠ sb k + 2 + 6) → J3 b = J b := fun b hb => by rw [ho.2 b (hb _ o2)]; exact e2 b hb
            rcases hc with ⟨c1, rfl⟩ | ⟨c, c1, hv, c3⟩
            · refine v_istore C dLH_placeNext_91 (ble rfl) rfl ?_
              refine v_iload C dLH_placeNext_93 rfl ?_
              refine v_iconst C (-1) dLH_placeNext_95 (by decide) ?_
              refine v_icmp_eq C 154 dLH_placeNext_96 (by decide) (fun _ => ?_) (fun h => absurd rfl h)
              exact next I3 J3 _ _ _ _ p1 p2 (by unfold cnd; rw [if_pos ⟨hbit, her⟩, c1])
            · rw [lk_mem f4, ek] at hv
              subst hv
              refine v_istore C dLH_placeNext_91 (ble rfl) rfl ?_
              refine v_iload C dLH_placeNext_93 rfl ?_
              refine v_iconst C (-1) dLH_placeNext_95 (by decide) ?_
              rcases lk_spec (dX d (dow d i)).2.1 (dX d (dow d i)).2.2.1 (keyB ((dX d (dow d i)).2.1 (rc (dow d i))) (dpl d i) c.2.1) c.1 (dX d (dow d i)).1 with ⟨n1, n2⟩ | ⟨t, n1, n2, n3⟩
              · rw [n1]
                refine v_icmp_eq C 154 dLH_placeNext_96 (by decide) (fun _ => ?_) (fun h => absurd rfl h)
                exact next I3 J3 _ _ _ _ p1 p2 (by unfold cnd; rw [if_pos ⟨hbit, her⟩, c1]; show (if _ then _ else _) = _; rw [if_pos n1])
              · have hne : ¬ nI t = -1 := fun e => by have h0 := nI_pos (n := t) (by omega); rw [e] at h0; exact h0 (by decide)
                have htc : (nI t).toNatClampNeg = t := nI_clamp (by omega)
                have hti : vp_in (nI t) 2000 := vp_in_nI (by omega) (by decide)
                rw [n2]
                refine v_icmp_eq C 154 dLH_placeNext_96 (by decide) (fun h => absurd h hne) (fun _ => ?_)
                refine v_aload C dLH_placeNext_99 rfl ?_
                refine v_getr C cfSu (k := 1) (by assumption) rfl (by assumption) w387 dLH_placeNext_101 ?_
                refine v_getr C cfSp (k := 3) (by assumption) rfl (by assumption) w85 dLH_placeNext_104 ?_
                refine v_iload C dLH_placeNext_107 rfl ?_
                refine v_zald C (by assumption) (by assumption) dLH_placeNext_109 ?_
                have eh : I3 (sb (dow d i) + 2 + 8) (nI t).toNatClampNeg = dhp d (dow d i) t := by
                  rw [htc, ho.1 _ (by omega)]
                  exact f8 t
                rw [eh]
                by_cases hh : dhp d (dow d i) t = 0
                · rw [hh]
                  refine v_if_eq C 154 dLH_placeNext_110 (by decide) (fun _ => ?_) (fun h => absurd rfl h)
                  refine next I3 J3 _ _ _ _ p1 p2 ?_
                  unfold cnd
                  rw [if_pos ⟨hbit, her⟩, c1]
                  show (if _ then _ else if _ then _ else _) = _
                  rw [if_neg (by rw [n2]; exact hne), if_pos (by rw [n2]; show dhp d _ (nI t).toNatClampNeg = 0; rw [htc]; exact hh)]
                · refine v_if_eq C 154 dLH_placeNext_110 (by decide) (fun h => absurd h hh) (fun _ => ?_)
                  have eb3 : ∀ b, b < a + 18 → I3 b = I b := fun b hb => p1 b (fun k hk => by have := hau k hk; omega)
                  refine v_aload_n C 0 dLH_placeNext_113 rfl rfl ?_
                  refine v_getr C cfLH (k := 8) (by assumption) rfl (by assumption) w119 dLH_placeNext_114 ?_
                  refine v_iload C dLH_placeNext_117 rfl ?_
                  refine v_iload C dLH_placeNext_119 rfl ?_
                  refine v_iast C (by assumption) (by assumption) dLH_placeNext_121 ?_
                  rw [hkc]
                  refine v_aload_n C 0 dLH_placeNext_122 rfl rfl ?_
                  refine v_getr C cfLH (k := 6) (by assumption) rfl (by assumption) w117 dLH_placeNext_123 ?_
                  refine v_aload_n C 0 dLH_placeNext_126 rfl rfl ?_
                  refine v_geti C cfLH (k := 9) (by assumption) rfl w120 dLH_placeNext_127 ?_
                  rw [s2_a (show a ≠ a + 17 by omega), eb3 a (by omega), hlen]
                  refine v_iload_n C 3 dLH_placeNext_130 rfl rfl ?_
                  refine v_iast C (by assumption) (by assumption) dLH_placeNext_131 ?_
                  rw [hlc]
                  refine v_aload_n C 0 dLH_placeNext_132 rfl rfl ?_
                  refine v_getr C cfLH (k := 7) (by assumption) rfl (by assumption) w118 dLH_placeNext_133 ?_
                  refine v_aload_n C 0 dLH_placeNext_136 rfl rfl ?_
                  refine v_geti C cfLH (k := 9) (by assumption) rfl w120 dLH_placeNext_137 ?_
                  rw [s2_a (show a ≠ a + 15 by omega), s2_a (show a ≠ a + 17 by omega), eb3 a (by omega), hlen]
                  refine v_aload C dLH_placeNext_140 rfl ?_
                  refine v_getr C cfSu (k := 1) (by assumption) rfl (by assumption) w387 dLH_placeNext_142 ?_
                  refine v_getr C cfSp (k := 1) (by assumption) rfl (by assumption) w82 dLH_placeNext_145 ?_
                  refine v_geti C cfSt (k := 2) (by assumption) rfl w71 dLH_placeNext_148 ?_
                  rw [s2_a (show sb (dow d i) + 2 + 6 ≠ a + 15 by omega), s2_a (show sb (dow d i) + 2 + 6 ≠ a + 17 by omega), c3]
                  refine v_iast C (by assumption) (by assumption) dLH_placeNext_151 ?_
                  rw [hlc]
                  refine v_iload_n C 3 dLH_placeNext_152 rfl rfl ?_
                  have hcnd : cnd d placed rc i = some (t, c.2.2) := by
                    unfold cnd
                    rw [if_pos ⟨hbit, her⟩, c1]
                    show (if _ then _ else if _ then _ else _) = _
                    have ei : ix (lk (dX d (dow d i)).2.1 (dX d (dow d i)).2.2.1 (keyB ((dX d (dow d i)).2.1 (rc (dow d i))) (dpl d i) c.2.1) c.1 (dX d (dow d i)).1) = t := by rw [n2]; exact htc
                    rw [if_neg (by rw [n2]; exact hne), ei, if_neg hh]
                  refine v_iret C M dLH_placeNext_153 (ble rfl) (ble rfl) ⟨rfl, ⟨fun b b1 b2 b3 b4 b5 => ?_, fun q _ _ => ?_, p2⟩, ?_, Or.inr ⟨i, t, c.2.2, ?_, rfl, hi, n1, ?_, ?_, ?_⟩⟩
                  · rw [s2_off b3, s2_off b2, s2_off b4]
                    exact p1 b b5
                  · rw [s2_a (by omega), s2_a (by omega), s2_a (by omega), eb3 a (by omega)]
                  · rw [s2_off (by omega), s2_off (by omega), s2_off (by omega), eb3 a (by omega)]
                  · rw [← he]
                    simp only [fstC, hcnd]
                  · rw [s2_off (by omega), s2_off (by omega), s2_upF, eb3 (a + 17) (by omega)]
                  · rw [s2_off (by omega), s2_upF, s2_off (by omega), eb3 (a + 15) (by omega)]
                  · rw [s2_upF, s2_off (by omega), s2_off (by omega), eb3 (a + 16) (by omega)]
          · refine v_if_eq C 52 dLH_placeNext_46 (by decide) (fun h => absurd h (fun h => her (lcmp0.mp h))) (fun _ => ?_)
            refine v_goto C 154 dLH_placeNext_49 (by decide) ?_
            exact next Ic Jc _ _ _ _ e1 e2 (by unfold cnd; rw [if_neg (fun h => her h.2)])
        · refine v_if_ne C 154 dLH_placeNext_29 (by decide) (fun _ => ?_) (fun h => absurd h hz0)
          exact next Ic Jc _ _ _ _ e1 e2 (by unfold cnd; rw [if_neg (fun h => hz0 (hz.mpr h.1))])
      refine v_if_eq C 24 dLH_placeNext_17 (by decide) (fun c17 => ?_) (fun c17 => ?_)
      · refine v_iconst C 0 dLH_placeNext_24 (by decide) ?_
        exact at25 0 ⟨fun _ => lcmp0.mp c17, fun _ => rfl⟩
      · refine v_iconst C 1 dLH_placeNext_20 (by decide) ?_
        refine v_goto C 25 dLH_placeNext_21 (by decide) ?_
        exact at25 1 ⟨fun h => absurd h (by decide), fun h => absurd (lcmp0.mpr h) c17⟩
  exact loop (dnp d) 0 I J (by omega) rfl (fun _ _ => rfl) (fun _ _ => rfl)
def mhQ (g : GM) (I : MI) (J : MJ) (a no : Nat) (sb cnt : Nat → Nat) (I2 : MI) (J2 : MJ) : Prop := (∀ k, k < no → SI I2 J2 (sb k) (cnt k) ∧ lsame (sb k) I J I2 J2 ∧ I2 (sb k) = I (sb k) ∧ I2 (sb k + 2) 4 = 1) ∧ ∀ b, (∀ k, k < no → b < sb k ∨ sb k + 30 ≤ b) → I2 b = I b ∧ J2 b = J b
end

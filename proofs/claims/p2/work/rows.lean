section
section
-- ===== PART A: goes FIRST, ahead of the names: the tables' words, and 'selects' of the private methods out of them =====
/-- a private method of a class that the tables say can be made, by its rows of tables_1 -/
def lw_okq (q : MethodName × Nat) : Prop := (q.1.cls ≠ "java/lang/invoke/MethodHandle" ∧ q.1.cls ≠ "java/lang/invoke/VarHandle") ∧ Cond.instantiable q.1.cls q.2 ∈ tables_1 ∧ Cond.privateMethod q.1 ∈ tables_1 ∧ Cond.instanceMethod q.1 ∈ tables_1
theorem lw_p0 : lw_okq (⟨"UpdateSteps$Worker", "takeAllFacts", "(LUpdateSteps$Step;)I"⟩, 5) := ⟨⟨by decide +kernel, by decide +kernel⟩, List.mem_of_getElem? (i := 30) (by decide +kernel), List.mem_of_getElem? (i := 276) (by decide +kernel), List.mem_of_getElem? (i := 277) (by decide +kernel)⟩
theorem lw_p1 : lw_okq (⟨"UpdateSteps$Worker", "makeGraph", "(LUpdateSteps$Step;)I"⟩, 5) := ⟨⟨by decide +kernel, by decide +kernel⟩, List.mem_of_getElem? (i := 30) (by decide +kernel), List.mem_of_getElem? (i := 287) (by decide +kernel), List.mem_of_getElem? (i := 288) (by decide +kernel)⟩
theorem lw_p2 : lw_okq (⟨"UpdateSteps$Worker", "bringGraph", "(LUpdateSteps$Step;)I"⟩, 5) := ⟨⟨by decide +kernel, by decide +kernel⟩, List.mem_of_getElem? (i := 30) (by decide +kernel), List.mem_of_getElem? (i := 291) (by decide +kernel), List.mem_of_getElem? (i := 292) (by decide +kernel)⟩
theorem lw_p3 : lw_okq (⟨"UpdateSteps$Worker", "addGraph", "(LUpdateSteps$Graph;LUpdateSteps$Graph;)I"⟩, 5) := ⟨⟨by decide +kernel, by decide +kernel⟩, List.mem_of_getElem? (i := 30) (by decide +kernel), List.mem_of_getElem? (i := 295) (by decide +kernel), List.mem_of_getElem? (i := 296) (by decide +kernel)⟩
theorem lw_p4 : lw_okq (⟨"UpdateSteps$Worker", "readFile", "(LUpdateSteps$Step;)I"⟩, 5) := ⟨⟨by decide +kernel, by decide +kernel⟩, List.mem_of_getElem? (i := 30) (by decide +kernel), List.mem_of_getElem? (i := 321) (by decide +kernel), List.mem_of_getElem? (i := 322) (by decide +kernel)⟩
theorem lw_p5 : lw_okq (⟨"UpdateSteps$Worker", "rewrite", "(LUpdateSteps$Step;)I"⟩, 5) := ⟨⟨by decide +kernel, by decide +kernel⟩, List.mem_of_getElem? (i := 30) (by decide +kernel), List.mem_of_getElem? (i := 340) (by decide +kernel), List.mem_of_getElem? (i := 341) (by decide +kernel)⟩
theorem lw_p6 : lw_okq (⟨"UpdateSteps$Search", "goOn", "(LUpdateSteps$Rows;LUpdateSteps$Graph;I)Z"⟩, 4) := ⟨⟨by decide +kernel, by decide +kernel⟩, List.mem_of_getElem? (i := 85) (by decide +kernel), List.mem_of_getElem? (i := 351) (by decide +kernel), List.mem_of_getElem? (i := 352) (by decide +kernel)⟩
theorem lw_p7 : lw_okq (⟨"UpdateSteps$Search", "keep", "([I)Z"⟩, 4) := ⟨⟨by decide +kernel, by decide +kernel⟩, List.mem_of_getElem? (i := 85) (by decide +kernel), List.mem_of_getElem? (i := 355) (by decide +kernel), List.mem_of_getElem? (i := 356) (by decide +kernel)⟩
theorem lw_p8 : lw_okq (⟨"UpdateSteps$Search", "holdAgainst", "(LUpdateSteps$Rows;LUpdateSteps$Graph;II)Z"⟩, 4) := ⟨⟨by decide +kernel, by decide +kernel⟩, List.mem_of_getElem? (i := 85) (by decide +kernel), List.mem_of_getElem? (i := 360) (by decide +kernel), List.mem_of_getElem? (i := 361) (by decide +kernel)⟩
theorem lw_p9 : lw_okq (⟨"UpdateSteps$Search", "fits", "(LUpdateSteps$Rows;II)Z"⟩, 4) := ⟨⟨by decide +kernel, by decide +kernel⟩, List.mem_of_getElem? (i := 85) (by decide +kernel), List.mem_of_getElem? (i := 364) (by decide +kernel), List.mem_of_getElem? (i := 365) (by decide +kernel)⟩
theorem lw_p10 : lw_okq (⟨"UpdateSteps$Worker", "takeAwayFor", "(LUpdateSteps$Step;I)V"⟩, 5) := ⟨⟨by decide +kernel, by decide +kernel⟩, List.mem_of_getElem? (i := 30) (by decide +kernel), List.mem_of_getElem? (i := 377) (by decide +kernel), List.mem_of_getElem? (i := 378) (by decide +kernel)⟩
theorem lw_p11 : lw_okq (⟨"UpdateSteps$Worker", "applyRow", "(LUpdateSteps$Step;II)Z"⟩, 5) := ⟨⟨by decide +kernel, by decide +kernel⟩, List.mem_of_getElem? (i := 30) (by decide +kernel), List.mem_of_getElem? (i := 381) (by decide +kernel), List.mem_of_getElem? (i := 382) (by decide +kernel)⟩
theorem lw_p12 : lw_okq (⟨"UpdateSteps$Worker", "valueOf", "(II)I"⟩, 5) := ⟨⟨by decide +kernel, by decide +kernel⟩, List.mem_of_getElem? (i := 30) (by decide +kernel), List.mem_of_getElem? (i := 385) (by decide +kernel), List.mem_of_getElem? (i := 386) (by decide +kernel)⟩
theorem lw_p13 : lw_okq (⟨"UpdateSteps$Worker", "withBlank", "(I)I"⟩, 5) := ⟨⟨by decide +kernel, by decide +kernel⟩, List.mem_of_getElem? (i := 30) (by decide +kernel), List.mem_of_getElem? (i := 403) (by decide +kernel), List.mem_of_getElem? (i := 404) (by decide +kernel)⟩
theorem lw_p14 : lw_okq (⟨"UpdateSteps$Worker", "addFor", "(LUpdateSteps$Step;I)Z"⟩, 5) := ⟨⟨by decide +kernel, by decide +kernel⟩, List.mem_of_getElem? (i := 30) (by decide +kernel), List.mem_of_getElem? (i := 414) (by decide +kernel), List.mem_of_getElem? (i := 415) (by decide +kernel)⟩
theorem lw_p15 : lw_okq (⟨"UpdateSteps$Changes", "compareGraphs", "(ILUpdateSteps$Graph;LUpdateSteps$Graph;)V"⟩, 4) := ⟨⟨by decide +kernel, by decide +kernel⟩, List.mem_of_getElem? (i := 164) (by decide +kernel), List.mem_of_getElem? (i := 426) (by decide +kernel), List.mem_of_getElem? (i := 427) (by decide +kernel)⟩
def lw_privs_1 : List (MethodName × Nat) := [(⟨"UpdateSteps$Worker", "takeAllFacts", "(LUpdateSteps$Step;)I"⟩, 5), (⟨"UpdateSteps$Worker", "makeGraph", "(LUpdateSteps$Step;)I"⟩, 5), (⟨"UpdateSteps$Worker", "bringGraph", "(LUpdateSteps$Step;)I"⟩, 5), (⟨"UpdateSteps$Worker", "addGraph", "(LUpdateSteps$Graph;LUpdateSteps$Graph;)I"⟩, 5), (⟨"UpdateSteps$Worker", "readFile", "(LUpdateSteps$Step;)I"⟩, 5), (⟨"UpdateSteps$Worker", "rewrite", "(LUpdateSteps$Step;)I"⟩, 5), (⟨"UpdateSteps$Search", "goOn", "(LUpdateSteps$Rows;LUpdateSteps$Graph;I)Z"⟩, 4), (⟨"UpdateSteps$Search", "keep", "([I)Z"⟩, 4), (⟨"UpdateSteps$Search", "holdAgainst", "(LUpdateSteps$Rows;LUpdateSteps$Graph;II)Z"⟩, 4), (⟨"UpdateSteps$Search", "fits", "(LUpdateSteps$Rows;II)Z"⟩, 4), (⟨"UpdateSteps$Worker", "takeAwayFor", "(LUpdateSteps$Step;I)V"⟩, 5), (⟨"UpdateSteps$Worker", "applyRow", "(LUpdateSteps$Step;II)Z"⟩, 5), (⟨"UpdateSteps$Worker", "valueOf", "(II)I"⟩, 5), (⟨"UpdateSteps$Worker", "withBlank", "(I)I"⟩, 5), (⟨"UpdateSteps$Worker", "addFor", "(LUpdateSteps$Step;I)Z"⟩, 5), (⟨"UpdateSteps$Changes", "compareGraphs", "(ILUpdateSteps$Graph;LUpdateSteps$Graph;)V"⟩, 4)]
theorem lw_r1 : ∀ q ∈ lw_privs_1, lw_okq q := List.forall_mem_cons.mpr ⟨lw_p0, List.forall_mem_cons.mpr ⟨lw_p1, List.forall_mem_cons.mpr ⟨lw_p2, List.forall_mem_cons.mpr ⟨lw_p3, List.forall_mem_cons.mpr ⟨lw_p4, List.forall_mem_cons.mpr ⟨lw_p5, List.forall_mem_cons.mpr ⟨lw_p6, List.forall_mem_cons.mpr ⟨lw_p7, List.forall_mem_cons.mpr ⟨lw_p8, List.forall_mem_cons.mpr ⟨lw_p9, List.forall_mem_cons.mpr ⟨lw_p10, List.forall_mem_cons.mpr ⟨lw_p11, List.forall_mem_cons.mpr ⟨lw_p12, List.forall_mem_cons.mpr ⟨lw_p13, List.forall_mem_cons.mpr ⟨lw_p14, List.forall_mem_cons.mpr ⟨lw_p15, fun _ h => absurd h List.not_mem_nil⟩⟩⟩⟩⟩⟩⟩⟩⟩⟩⟩⟩⟩⟩⟩⟩
theorem lw_p16 : lw_okq (⟨"UpdateSteps$Changes", "note", "(III)V"⟩, 4) := ⟨⟨by decide +kernel, by decide +kernel⟩, List.mem_of_getElem? (i := 164) (by decide +kernel), List.mem_of_getElem? (i := 430) (by decide +kernel), List.mem_of_getElem? (i := 431) (by decide +kernel)⟩
theorem lw_p17 : lw_okq (⟨"java/lang/Throwable", "fillInStackTrace", "(I)Ljava/lang/Throwable;"⟩, 6) := ⟨⟨by decide +kernel, by decide +kernel⟩, List.mem_of_getElem? (i := 499) (by decide +kernel), List.mem_of_getElem? (i := 497) (by decide +kernel), List.mem_of_getElem? (i := 498) (by decide +kernel)⟩
theorem lw_p18 : lw_okq (⟨"UpdateSteps", "stepNumbered", "(I)LUpdateSteps$Step;"⟩, 8) := ⟨⟨by decide +kernel, by decide +kernel⟩, List.mem_of_getElem? (i := 20) (by decide +kernel), List.mem_of_getElem? (i := 557) (by decide +kernel), List.mem_of_getElem? (i := 558) (by decide +kernel)⟩
theorem lw_p19 : lw_okq (⟨"UpdateSteps", "fileNumbered", "(I)LUpdateSteps$FileRows;"⟩, 8) := ⟨⟨by decide +kernel, by decide +kernel⟩, List.mem_of_getElem? (i := 20) (by decide +kernel), List.mem_of_getElem? (i := 629) (by decide +kernel), List.mem_of_getElem? (i := 630) (by decide +kernel)⟩
theorem lw_p20 : lw_okq (⟨"UpdateSteps", "graphNumbered", "(I)LUpdateSteps$Graph;"⟩, 8) := ⟨⟨by decide +kernel, by decide +kernel⟩, List.mem_of_getElem? (i := 20) (by decide +kernel), List.mem_of_getElem? (i := 650) (by decide +kernel), List.mem_of_getElem? (i := 651) (by decide +kernel)⟩
theorem lw_p21 : lw_okq (⟨"UpdateStepsModel", "isStep", "(I)Z"⟩, 50) := ⟨⟨by decide +kernel, by decide +kernel⟩, List.mem_of_getElem? (i := 702) (by decide +kernel), List.mem_of_getElem? (i := 877) (by decide +kernel), List.mem_of_getElem? (i := 878) (by decide +kernel)⟩
theorem lw_p22 : lw_okq (⟨"UpdateStepsModel", "keep", "()V"⟩, 50) := ⟨⟨by decide +kernel, by decide +kernel⟩, List.mem_of_getElem? (i := 702) (by decide +kernel), List.mem_of_getElem? (i := 913) (by decide +kernel), List.mem_of_getElem? (i := 914) (by decide +kernel)⟩
theorem lw_p23 : lw_okq (⟨"UpdateStepsModel", "act", "(I)I"⟩, 50) := ⟨⟨by decide +kernel, by decide +kernel⟩, List.mem_of_getElem? (i := 702) (by decide +kernel), List.mem_of_getElem? (i := 917) (by decide +kernel), List.mem_of_getElem? (i := 918) (by decide +kernel)⟩
theorem lw_p24 : lw_okq (⟨"UpdateStepsModel", "add", "(II)Z"⟩, 50) := ⟨⟨by decide +kernel, by decide +kernel⟩, List.mem_of_getElem? (i := 702) (by decide +kernel), List.mem_of_getElem? (i := 921) (by decide +kernel), List.mem_of_getElem? (i := 922) (by decide +kernel)⟩
theorem lw_p25 : lw_okq (⟨"UpdateStepsModel", "isLeftOut", "(II)Z"⟩, 50) := ⟨⟨by decide +kernel, by decide +kernel⟩, List.mem_of_getElem? (i := 702) (by decide +kernel), List.mem_of_getElem? (i := 925) (by decide +kernel), List.mem_of_getElem? (i := 926) (by decide +kernel)⟩
theorem lw_p26 : lw_okq (⟨"UpdateStepsModel", "valueIn", "([III)I"⟩, 50) := ⟨⟨by decide +kernel, by decide +kernel⟩, List.mem_of_getElem? (i := 702) (by decide +kernel), List.mem_of_getElem? (i := 929) (by decide +kernel), List.mem_of_getElem? (i := 930) (by decide +kernel)⟩
theorem lw_p27 : lw_okq (⟨"UpdateStepsModel", "comes", "(II)I"⟩, 50) := ⟨⟨by decide +kernel, by decide +kernel⟩, List.mem_of_getElem? (i := 702) (by decide +kernel), List.mem_of_getElem? (i := 933) (by decide +kernel), List.mem_of_getElem? (i := 934) (by decide +kernel)⟩
theorem lw_p28 : lw_okq (⟨"UpdateStepsModel", "come", "(IIII)Z"⟩, 50) := ⟨⟨by decide +kernel, by decide +kernel⟩, List.mem_of_getElem? (i := 702) (by decide +kernel), List.mem_of_getElem? (i := 937) (by decide +kernel), List.mem_of_getElem? (i := 938) (by decide +kernel)⟩
theorem lw_p29 : lw_okq (⟨"UpdateStepsModel", "find", "(IIII)I"⟩, 50) := ⟨⟨by decide +kernel, by decide +kernel⟩, List.mem_of_getElem? (i := 702) (by decide +kernel), List.mem_of_getElem? (i := 941) (by decide +kernel), List.mem_of_getElem? (i := 942) (by decide +kernel)⟩
theorem lw_p30 : lw_okq (⟨"UpdateStepsModel", "takeAway", "(II)V"⟩, 50) := ⟨⟨by decide +kernel, by decide +kernel⟩, List.mem_of_getElem? (i := 702) (by decide +kernel), List.mem_of_getElem? (i := 945) (by decide +kernel), List.mem_of_getElem? (i := 946) (by decide +kernel)⟩
theorem lw_p31 : lw_okq (⟨"UpdateStepsModel", "take", "(IIII)V"⟩, 50) := ⟨⟨by decide +kernel, by decide +kernel⟩, List.mem_of_getElem? (i := 702) (by decide +kernel), List.mem_of_getElem? (i := 949) (by decide +kernel), List.mem_of_getElem? (i := 950) (by decide +kernel)⟩
def lw_privs_2 : List (MethodName × Nat) := [(⟨"UpdateSteps$Changes", "note", "(III)V"⟩, 4), (⟨"java/lang/Throwable", "fillInStackTrace", "(I)Ljava/lang/Throwable;"⟩, 6), (⟨"UpdateSteps", "stepNumbered", "(I)LUpdateSteps$Step;"⟩, 8), (⟨"UpdateSteps", "fileNumbered", "(I)LUpdateSteps$FileRows;"⟩, 8), (⟨"UpdateSteps", "graphNumbered", "(I)LUpdateSteps$Graph;"⟩, 8), (⟨"UpdateStepsModel", "isStep", "(I)Z"⟩, 50), (⟨"UpdateStepsModel", "keep", "()V"⟩, 50), (⟨"UpdateStepsModel", "act", "(I)I"⟩, 50), (⟨"UpdateStepsModel", "add", "(II)Z"⟩, 50), (⟨"UpdateStepsModel", "isLeftOut", "(II)Z"⟩, 50), (⟨"UpdateStepsModel", "valueIn", "([III)I"⟩, 50), (⟨"UpdateStepsModel", "comes", "(II)I"⟩, 50), (⟨"UpdateStepsModel", "come", "(IIII)Z"⟩, 50), (⟨"UpdateStepsModel", "find", "(IIII)I"⟩, 50), (⟨"UpdateStepsModel", "takeAway", "(II)V"⟩, 50), (⟨"UpdateStepsModel", "take", "(IIII)V"⟩, 50)]
theorem lw_r2 : ∀ q ∈ lw_privs_2, lw_okq q := List.forall_mem_cons.mpr ⟨lw_p16, List.forall_mem_cons.mpr ⟨lw_p17, List.forall_mem_cons.mpr ⟨lw_p18, List.forall_mem_cons.mpr ⟨lw_p19, List.forall_mem_cons.mpr ⟨lw_p20, List.forall_mem_cons.mpr ⟨lw_p21, List.forall_mem_cons.mpr ⟨lw_p22, List.forall_mem_cons.mpr ⟨lw_p23, List.forall_mem_cons.mpr ⟨lw_p24, List.forall_mem_cons.mpr ⟨lw_p25, List.forall_mem_cons.mpr ⟨lw_p26, List.forall_mem_cons.mpr ⟨lw_p27, List.forall_mem_cons.mpr ⟨lw_p28, List.forall_mem_cons.mpr ⟨lw_p29, List.forall_mem_cons.mpr ⟨lw_p30, List.forall_mem_cons.mpr ⟨lw_p31, fun _ h => absurd h List.not_mem_nil⟩⟩⟩⟩⟩⟩⟩⟩⟩⟩⟩⟩⟩⟩⟩⟩
theorem lw_p32 : lw_okq (⟨"UpdateStepsModel", "leave", "(I)V"⟩, 50) := ⟨⟨by decide +kernel, by decide +kernel⟩, List.mem_of_getElem? (i := 702) (by decide +kernel), List.mem_of_getElem? (i := 953) (by decide +kernel), List.mem_of_getElem? (i := 954) (by decide +kernel)⟩
theorem lw_p33 : lw_okq (⟨"UpdateStepsModel", "change", "(I)I"⟩, 50) := ⟨⟨by decide +kernel, by decide +kernel⟩, List.mem_of_getElem? (i := 702) (by decide +kernel), List.mem_of_getElem? (i := 957) (by decide +kernel), List.mem_of_getElem? (i := 958) (by decide +kernel)⟩
theorem lw_p34 : lw_okq (⟨"UpdateStepsModel", "solve", "(I)I"⟩, 50) := ⟨⟨by decide +kernel, by decide +kernel⟩, List.mem_of_getElem? (i := 702) (by decide +kernel), List.mem_of_getElem? (i := 961) (by decide +kernel), List.mem_of_getElem? (i := 962) (by decide +kernel)⟩
theorem lw_p35 : lw_okq (⟨"UpdateStepsModel", "lineUp", "(I)V"⟩, 50) := ⟨⟨by decide +kernel, by decide +kernel⟩, List.mem_of_getElem? (i := 702) (by decide +kernel), List.mem_of_getElem? (i := 965) (by decide +kernel), List.mem_of_getElem? (i := 966) (by decide +kernel)⟩
theorem lw_p36 : lw_okq (⟨"UpdateStepsModel", "isBefore", "(II)Z"⟩, 50) := ⟨⟨by decide +kernel, by decide +kernel⟩, List.mem_of_getElem? (i := 702) (by decide +kernel), List.mem_of_getElem? (i := 969) (by decide +kernel), List.mem_of_getElem? (i := 970) (by decide +kernel)⟩
theorem lw_p37 : lw_okq (⟨"UpdateStepsModel", "fits", "(II)Z"⟩, 50) := ⟨⟨by decide +kernel, by decide +kernel⟩, List.mem_of_getElem? (i := 702) (by decide +kernel), List.mem_of_getElem? (i := 973) (by decide +kernel), List.mem_of_getElem? (i := 974) (by decide +kernel)⟩
theorem lw_p38 : lw_okq (⟨"UpdateStepsModel", "wipe", "(IZ)I"⟩, 50) := ⟨⟨by decide +kernel, by decide +kernel⟩, List.mem_of_getElem? (i := 702) (by decide +kernel), List.mem_of_getElem? (i := 977) (by decide +kernel), List.mem_of_getElem? (i := 978) (by decide +kernel)⟩
theorem lw_p39 : lw_okq (⟨"UpdateStepsModel", "empty", "(I)V"⟩, 50) := ⟨⟨by decide +kernel, by decide +kernel⟩, List.mem_of_getElem? (i := 702) (by decide +kernel), List.mem_of_getElem? (i := 981) (by decide +kernel), List.mem_of_getElem? (i := 982) (by decide +kernel)⟩
theorem lw_p40 : lw_okq (⟨"UpdateStepsModel", "readFile", "(I)I"⟩, 50) := ⟨⟨by decide +kernel, by decide +kernel⟩, List.mem_of_getElem? (i := 702) (by decide +kernel), List.mem_of_getElem? (i := 985) (by decide +kernel), List.mem_of_getElem? (i := 986) (by decide +kernel)⟩
theorem lw_p41 : lw_okq (⟨"UpdateStepsModel", "copy", "(I)I"⟩, 50) := ⟨⟨by decide +kernel, by decide +kernel⟩, List.mem_of_getElem? (i := 702) (by decide +kernel), List.mem_of_getElem? (i := 989) (by decide +kernel), List.mem_of_getElem? (i := 990) (by decide +kernel)⟩
theorem lw_p42 : lw_okq (⟨"UpdateStepsModel", "dropOne", "(I)V"⟩, 50) := ⟨⟨by decide +kernel, by decide +kernel⟩, List.mem_of_getElem? (i := 702) (by decide +kernel), List.mem_of_getElem? (i := 993) (by decide +kernel), List.mem_of_getElem? (i := 994) (by decide +kernel)⟩
theorem lw_p43 : lw_okq (⟨"UpdateStepsModel", "goBack", "()V"⟩, 50) := ⟨⟨by decide +kernel, by decide +kernel⟩, List.mem_of_getElem? (i := 702) (by decide +kernel), List.mem_of_getElem? (i := 997) (by decide +kernel), List.mem_of_getElem? (i := 998) (by decide +kernel)⟩
theorem lw_p44 : lw_okq (⟨"UpdateStepsModel", "noteAll", "()V"⟩, 50) := ⟨⟨by decide +kernel, by decide +kernel⟩, List.mem_of_getElem? (i := 702) (by decide +kernel), List.mem_of_getElem? (i := 1001) (by decide +kernel), List.mem_of_getElem? (i := 1002) (by decide +kernel)⟩
theorem lw_p45 : lw_okq (⟨"UpdateStepsModel", "wasIn", "(IIII)Z"⟩, 50) := ⟨⟨by decide +kernel, by decide +kernel⟩, List.mem_of_getElem? (i := 702) (by decide +kernel), List.mem_of_getElem? (i := 1005) (by decide +kernel), List.mem_of_getElem? (i := 1006) (by decide +kernel)⟩
theorem lw_p46 : lw_okq (⟨"UpdateStepsModel", "note", "(IIIIZ)V"⟩, 50) := ⟨⟨by decide +kernel, by decide +kernel⟩, List.mem_of_getElem? (i := 702) (by decide +kernel), List.mem_of_getElem? (i := 1009) (by decide +kernel), List.mem_of_getElem? (i := 1010) (by decide +kernel)⟩
theorem lw_p47 : lw_okq (⟨"UpdateStepsModel", "isAfter", "(IIIII)Z"⟩, 50) := ⟨⟨by decide +kernel, by decide +kernel⟩, List.mem_of_getElem? (i := 702) (by decide +kernel), List.mem_of_getElem? (i := 1013) (by decide +kernel), List.mem_of_getElem? (i := 1014) (by decide +kernel)⟩
def lw_privs_3 : List (MethodName × Nat) := [(⟨"UpdateStepsModel", "leave", "(I)V"⟩, 50), (⟨"UpdateStepsModel", "change", "(I)I"⟩, 50), (⟨"UpdateStepsModel", "solve", "(I)I"⟩, 50), (⟨"UpdateStepsModel", "lineUp", "(I)V"⟩, 50), (⟨"UpdateStepsModel", "isBefore", "(II)Z"⟩, 50), (⟨"UpdateStepsModel", "fits", "(II)Z"⟩, 50), (⟨"UpdateStepsModel", "wipe", "(IZ)I"⟩, 50), (⟨"UpdateStepsModel", "empty", "(I)V"⟩, 50), (⟨"UpdateStepsModel", "readFile", "(I)I"⟩, 50), (⟨"UpdateStepsModel", "copy", "(I)I"⟩, 50), (⟨"UpdateStepsModel", "dropOne", "(I)V"⟩, 50), (⟨"UpdateStepsModel", "goBack", "()V"⟩, 50), (⟨"UpdateStepsModel", "noteAll", "()V"⟩, 50), (⟨"UpdateStepsModel", "wasIn", "(IIII)Z"⟩, 50), (⟨"UpdateStepsModel", "note", "(IIIIZ)V"⟩, 50), (⟨"UpdateStepsModel", "isAfter", "(IIIII)Z"⟩, 50)]
theorem lw_r3 : ∀ q ∈ lw_privs_3, lw_okq q := List.forall_mem_cons.mpr ⟨lw_p32, List.forall_mem_cons.mpr ⟨lw_p33, List.forall_mem_cons.mpr ⟨lw_p34, List.forall_mem_cons.mpr ⟨lw_p35, List.forall_mem_cons.mpr ⟨lw_p36, List.forall_mem_cons.mpr ⟨lw_p37, List.forall_mem_cons.mpr ⟨lw_p38, List.forall_mem_cons.mpr ⟨lw_p39, List.forall_mem_cons.mpr ⟨lw_p40, List.forall_mem_cons.mpr ⟨lw_p41, List.forall_mem_cons.mpr ⟨lw_p42, List.forall_mem_cons.mpr ⟨lw_p43, List.forall_mem_cons.mpr ⟨lw_p44, List.forall_mem_cons.mpr ⟨lw_p45, List.forall_mem_cons.mpr ⟨lw_p46, List.forall_mem_cons.mpr ⟨lw_p47, fun _ h => absurd h List.not_mem_nil⟩⟩⟩⟩⟩⟩⟩⟩⟩⟩⟩⟩⟩⟩⟩⟩
def lw_privs : List (MethodName × Nat) := lw_privs_1 ++ (lw_privs_2 ++ (lw_privs_3))
def lw_tbl : List Cond := k2_sels lw_privs ++ tables_1
theorem lw_privs_ok : ∀ q ∈ lw_privs, lw_okq q := by
  show ∀ q ∈ lw_privs_1 ++ (lw_privs_2 ++ (lw_privs_3)), lw_okq q
  exact List.forall_mem_append.mpr ⟨lw_r1, List.forall_mem_append.mpr ⟨lw_r2, lw_r3⟩⟩
end
section
/-! ===== BEGIN words of one list among another's, by their places ===== -/
/-! ===== END ===== -/
/-! ===== END ===== -/
/-! ===== BEGIN exceptions that leave a method, and their catching by the caller (launches without stack traces) ===== -/
section VXA
/-! The laws vx_back, vx_callV, vx_callS, vx_callSW, vx_throw0, vx_throwS follow proofs of the library, with one case more: JvmDerived/Free/Laws.lean (Back.of_free), Shelf42/LK1.lean (callV, callS), Shelf/KitTraced.lean (throwNew0V, throwNewS). -/
/-- where a method has thrown q: the class by its name, the cell, what was written, the world -/
def vx_T (XC : String → State → State → Prop) (st : State) (q : Addr) (t : State) (mc ms : Nat) (free : Addr → Prop) : Prop :=
  ∃ (E : String) (ce : Cell) (L : List Loc), XC E st t ∧ t.heap[q]? = some ce ∧ ce.vm = .none ∧ st.vm.findClass E = some ce.cls ∧ st.WarmedH t.vm ∧ st.sameButNew ({ t with vm := st.vm } : State) L mc ms ∧ ∀ z ∈ L, free z.base
def vx_Q (Qc : Array Value → State → Outcome → State → Prop) (XC : String → State → State → Prop) (mc ms : Nat) (free : Addr → Prop) : Array Value → State → Outcome → State → Prop := fun a st o t =>
  (Qc a st o t ∧ ∃ L, FrameEnd st o t L mc ms ∧ ∀ q ∈ L, free q.base) ∨ ∃ q, o = .threw q ∧ vx_T XC st q t mc ms free
/-- a callee that returns or throws -/
def vx_Met (l : Launch) (y : MethodName) (ws : List Cond) (rm : Room) (Pc : Array Value → State → Prop) (Qc : Array Value → State → Outcome → State → Prop) (XC : String → State → State → Prop) (mc ms : Nat) (free : Addr → Prop) : Prop :=
  MetFree l y (headSpec ws rm) Pc (fun _ _ _ _ _ => True) (vx_Q Qc XC mc ms free)
def vx_Post (XC : String → State → State → Prop) (mc ms : Nat) (free : Addr → Prop) : Pt → Array Value → Addr → Pt → Prop := fun A a q B =>
  ∃ (g : JFrame) (mk : MethodId) (t : State) (L : List Loc) (E : String) (ce : Cell), B.U.heap = t.heap ∧ B.U.vm = t.vm ∧ XC E (A.U.calling g mk a) t ∧ t.heap[q]? = some ce ∧ ce.vm = .none ∧ A.U.vm.findClass E = some ce.cls ∧ B.locs = A.locs ++ L ∧ (∀ z ∈ L, free z.base) ∧ B.cells = A.cells + mc ∧ B.slots = A.slots + ms
def vx_Back (l : Launch) (R : Room) (p : Program) (e : Env) (below : List Frame) (s : State) (sargs : Array Value) (y : MethodName) (len W9 : Nat)
    (Pre : Pt → Array Value → Prop) (Post : Pt → Array Value → Option Value → Pt → Prop) (PostX : Pt → Array Value → Addr → Pt → Prop) : Prop :=
  ∀ (m : MethodId) (meth : Method) (c : Code) (A : Pt) (g : JFrame) (ig : Instr) (mk : MethodId) (a : Array Value),
    Stand p l e R s m sargs below meth c A.U A.locs A.cells A.slots → g.method = m → g.locals.size = c.maxLocals → decode c.code g.pc = .ok (ig, len) →
    2 * g.monitorRoom + (g.stack.map fun v => v.category).sum ≤ W9 → A.U.methodNamed? y = some mk → Pre A a →
    (∃ (v : Option Value) (B : Pt), Stand p l e R s m sargs below meth c B.U B.locs B.cells B.slots ∧ Post A a v B ∧
      Steps p.tables e below (doInvoke e (A.U.setTop g) [] mk a).1 (B.U.setTop { g with pc := g.pc + len, stack := v.toList ++ g.stack })) ∨
    (∃ (q : Addr) (B : Pt), Stand p l e R s m sargs below meth c B.U B.locs B.cells B.slots ∧ PostX A a q B ∧
      Steps p.tables e below (doInvoke e (A.U.setTop g) [] mk a).1 ((B.U.setTop g).pushFrame (.throwing q)))
section Payer
variable {l : Launch} {R : Room} {p : Program} {e : Env} {below : List Frame} {s : State} {sargs : Array Value} {y : MethodName} {len W9 : Nat}
theorem vx_back {ws : List Cond} {rm : Room} {Pc : Array Value → State → Prop} {Qc : Array Value → State → Outcome → State → Prop} {XC : String → State → State → Prop} {mc ms : Nat} {free : Addr → Prop} {bytes : ByteArray} {maxL : Nat} {ret : Option FieldType}
    (hM : vx_Met l y ws rm Pc Qc XC mc ms free) (hblind : FrameBlind Pc) (hrc : rm.cells = mc) (hrs : rm.slots = ms)
    (hframes : rm.frames + 1 ≤ R.frames) (hlocals : W9 + (maxL + 11) + rm.locals ≤ R.locals)
    (hws : ∀ w ∈ ws, ∀ a' U, s.WarmedH U.vm → w.before a' U = true) (hcode : Cond.code y bytes maxL ret ∈ ws) (hinit : ∀ a' U, s.WarmedH U.vm → (Cond.initialized y.cls).before a' U = true) :
    vx_Back l R p e below s sargs y len W9 (PreOf R mc ms Pc) (PostOf Qc mc ms free) (vx_Post XC mc ms free) := by
  intro m meth c A g ig mk a X hg hsize hdg hW hn hp
  have h1 : (headSpec ws rm).pre.before a A.U = true := atoms_intro fun w hw => hws w hw _ _ X.warmed
  have h2 : (Cond.code y bytes maxL ret).before a A.U = true := hws _ hcode _ _ X.warmed
  have h3 : (Cond.initialized y.cls).before a A.U = true := hinit _ _ X.warmed
  have h4 : A.cells + (headSpec ws rm).room.cells ≤ R.cells := by rw [show (headSpec ws rm).room.cells = mc from hrc]; exact hp.1
  have h5 : A.slots + (headSpec ws rm).room.slots ≤ R.slots := by rw [show (headSpec ws rm).room.slots = ms from hrs]; exact hp.2.1
  have hPc : Pc a (A.U.calling g mk a) := hblind _ _ _ _ hp.2.2
  obtain ⟨U, Ls, c0, s0⟩ := A
  dsimp only [Pt.U, Pt.locs, Pt.cells, Pt.slots] at h1 h2 h3 h4 h5 X hn hPc ⊢
  obtain ⟨methY, cY, hmY, hcY, -, hlY, -, -, -, -⟩ := Cond.code_spec hn h2
  obtain ⟨kY, hkY, -⟩ := className_of_methodNamed hn
  have hinitY : kY.init = .initialized := Cond.initialized_spec (findClass_of_methodNamed hn) hkY h3
  have h : At U g.method c below := by rw [hg]; exact X.here
  have hlocals9 : W9 + (maxL + 11) + (headSpec ws rm).room.locals ≤ R.locals := hlocals
  have happ : (headSpec ws rm).appliesLoose y e.platform (U.calling g mk a) = true :=
    Spec.appliesLoose_calling (g := g) h hdg hn hkY hinitY
      (X.room_calling (g := g) (R' := (headSpec ws rm).room) hsize hmY hcY hframes (by rw [hlY]; omega) h4 h5) h1
  obtain ⟨mid, hmid⟩ := h.above
  have hfr : (U.setTop g).frames = (.java g :: mid) ++ below := by rw [State.frames_setTop' g h.top, hmid]; rfl
  obtain ⟨o, s₂, hsteps, -, hend, hq⟩ := Steps.callFree hM p X.admits X.cas X.clock (acts := []) hfr happ hPc trivial
  have hq' : vx_Q Qc XC mc ms free a (U.calling g mk a) o s₂ := hq
  rw [State.frames_setTop' g h.top] at hend
  obtain ⟨g₀, hg0⟩ := Option.isSome_iff_exists.mp h.top
  obtain ⟨r, hr⟩ := State.topJava?_eq_some.mp hg0
  have hr' : (({ U with heap := s₂.heap, slotsUsed := s₂.slotsUsed } : State).setVm s₂.vm).frames = .java g₀ :: r := hr
  rcases hq' with ⟨hqc, L, hfe, hL⟩ | ⟨q, rfl, E, ce, L, hx, hce, hcv, hcl, hW₂, hsm, hL⟩
  · obtain ⟨⟨v, rfl⟩, hW₂, e2, q2, q3, q4, q5, q6⟩ := id hfe
    have e3 : s₂ = ({ (U.calling g mk a).setFrames s₂.frames with heap := s₂.heap, slotsUsed := s₂.slotsUsed } : State).setVm s₂.vm := by
      have : s₂ = ({ s₂ with vm := (U.calling g mk a).vm } : State).setVm s₂.vm := rfl
      rw [e2] at this
      exact this
    obtain ⟨c₂, i₂, len₂, hc₂, hd₂, hf₂⟩ := hend
    have hW' : U.WarmedH s₂.vm := hW₂
    have hcc : c₂ = c := by
      have h1 : s₂.code? g.method = U.code? g.method := by
        rw [State.code?_eq, State.code?_eq, hW'.alike.method?]
      exact Option.some.inj (hc₂.symm.trans (h1.trans h.code))
    subst hcc
    have hlen : len₂ = len := by rw [hdg] at hd₂; cases hd₂; rfl
    subst hlen
    have hs₂ : s₂ = (({ U with heap := s₂.heap, slotsUsed := s₂.slotsUsed } : State).setVm s₂.vm).setTop { g with pc := g.pc + len₂, stack := v.toList ++ g.stack } := by
      refine e3.trans ?_
      rw [hf₂, State.calling_eq h.top, State.setFrames_setFrames, State.setTop_of_frames _ hr', hr]
      rfl
    have hsame : U.sameButNew ({ U with heap := s₂.heap, slotsUsed := s₂.slotsUsed } : State) L mc ms := by
      refine ⟨?_, q2, q3, q4, q5, q6⟩
      obtain ⟨t, ht, -⟩ := State.frames_cons hr
      show ({ U with heap := s₂.heap, slotsUsed := s₂.slotsUsed } : State) = { U.setFrames U.frames with heap := s₂.heap, slotsUsed := s₂.slotsUsed }
      rw [State.setFrames_self ht]
    subst hg
    refine Or.inl ⟨v, ⟨(({ U with heap := s₂.heap, slotsUsed := s₂.slotsUsed } : State).setVm s₂.vm), Ls ++ L, c0 + mc, s0 + ms⟩,
      ⟨X.admits, X.cas, X.clock, X.frames, X.room, X.hears, X.method, X.code, (X.here.setHeapUsed s₂.heap s₂.slotsUsed).setVm hW'.alike, X.tail, State.WarmedH.trans X.warmed hW', X.limits, X.bytes, X.same.trans (hsame.setVm s.vm)⟩,
      ⟨g, mk, s₂, L, rfl, rfl, hqc, rfl, hL, rfl, rfl⟩, ?_⟩
    show Steps p.tables e below _ ((({ U with heap := s₂.heap, slotsUsed := s₂.slotsUsed } : State).setVm s₂.vm).setTop { g with pc := g.pc + len₂, stack := v.toList ++ g.stack })
    rw [← hs₂]
    exact hsteps
  · obtain ⟨e2, q2, q3, q4, q5, q6⟩ := id hsm
    have e3 : s₂ = ({ (U.calling g mk a).setFrames s₂.frames with heap := s₂.heap, slotsUsed := s₂.slotsUsed } : State).setVm s₂.vm := by
      have : s₂ = ({ s₂ with vm := (U.calling g mk a).vm } : State).setVm s₂.vm := rfl
      rw [e2] at this
      exact this
    have hf₂ : s₂.frames = .throwing q :: .java g :: U.frames.tail := hend
    have hW' : U.WarmedH s₂.vm := hW₂
    have hs₂ : s₂ = ((({ U with heap := s₂.heap, slotsUsed := s₂.slotsUsed } : State).setVm s₂.vm).setTop g).pushFrame (.throwing q) := by
      refine e3.trans ?_
      rw [hf₂, State.calling_eq h.top, State.setFrames_setFrames, State.pushFrame, State.frames_setTop _ hr', State.setTop_of_frames _ hr', State.setFrames_setFrames, hr]
      rfl
    have hsame : U.sameButNew ({ U with heap := s₂.heap, slotsUsed := s₂.slotsUsed } : State) L mc ms := by
      refine ⟨?_, q2, q3, q4, q5, q6⟩
      obtain ⟨t, ht, -⟩ := State.frames_cons hr
      show ({ U with heap := s₂.heap, slotsUsed := s₂.slotsUsed } : State) = { U.setFrames U.frames with heap := s₂.heap, slotsUsed := s₂.slotsUsed }
      rw [State.setFrames_self ht]
    subst hg
    refine Or.inr ⟨q, ⟨(({ U with heap := s₂.heap, slotsUsed := s₂.slotsUsed } : State).setVm s₂.vm), Ls ++ L, c0 + mc, s0 + ms⟩,
      ⟨X.admits, X.cas, X.clock, X.frames, X.room, X.hears, X.method, X.code, (X.here.setHeapUsed s₂.heap s₂.slotsUsed).setVm hW'.alike, X.tail, State.WarmedH.trans X.warmed hW', X.limits, X.bytes, X.same.trans (hsame.setVm s.vm)⟩,
      ⟨g, mk, s₂, L, E, ce, rfl, rfl, hx, hce, hcv, hcl, rfl, hL, rfl, rfl⟩, ?_⟩
    show Steps p.tables e below _ (((({ U with heap := s₂.heap, slotsUsed := s₂.slotsUsed } : State).setVm s₂.vm).setTop g).pushFrame (.throwing q))
    rw [← hs₂]
    exact hsteps
end Payer
section Calls
variable {p : Program} {l : Launch} {e : Env} {R : Room} {s : State} {m : MethodId} {args : Array Value} {below : List Frame} {meth : Method} {c : Code} {T : State} {locs : List Loc} {cells slots : Nat}
theorem vx_callV (X : Stand p l e R s m args below meth c T locs cells slots) (hexec : p.tables.exec = Jvm.exec) {own C : String} {index : Nat} {y : MethodName} {bytes : ByteArray} {maxL : Nat} {ret : Option FieldType}
    (hown : s.vm.findClass own = some m.cls) (hlink : (Cond.methodLink own index y).before args s = true) (hinst : (Cond.instanceMethod y).before args s = true) (hsel : (Cond.selects C y y).before args s = true)
    (hcode : (Cond.code y bytes maxL ret).before args s = true) (hy : y.cls ≠ "java/lang/invoke/MethodHandle" ∧ y.cls ≠ "java/lang/invoke/VarHandle")
    {W9 : Nat} {Pre : Pt → Array Value → Prop} {Post : Pt → Array Value → Option Value → Pt → Prop} {PostX : Pt → Array Value → Addr → Pt → Prop} (hK : vx_Back l R p e below s args y 3 W9 Pre Post PostX)
    {b : Addr} {cellB : Cell} (hcell : T.heap[b]? = some cellB) (hobj : cellB.vm.isStatics = false) (hcls : s.vm.findClass C = some cellB.cls)
    {g : JFrame} (hg : g.method = m) (hsize : g.locals.size = c.maxLocals) {argsL rest : List Value} (hlen : ∀ sig, parseMethodDescriptor y.desc = some sig → argsL.length = sig.parameters.length)
    (hstack : g.stack = argsL.reverse ++ .ref b :: rest) (hW : 2 * g.monitorRoom + (rest.map fun v => v.category).sum ≤ W9) (hdg : decode c.code g.pc = .ok (.invokevirtual index, 3))
    (hpre : ∀ vm₁, s.WarmedH vm₁ → Pre ⟨T.setVm vm₁, locs, cells, slots⟩ (Value.ref b :: argsL).toArray) :
    (∃ (v : Option Value) (vm₁ : Vm) (B : Pt), s.WarmedH vm₁ ∧ Stand p l e R s m args below meth c B.U B.locs B.cells B.slots ∧ Post ⟨T.setVm vm₁, locs, cells, slots⟩ (Value.ref b :: argsL).toArray v B ∧
      ∀ target, Steps p.tables e below (B.U.setTop { g with pc := g.pc + 3, stack := v.toList ++ rest }) target → Steps p.tables e below (T.setTop g) target) ∨
    (∃ (q : Addr) (vm₁ : Vm) (B : Pt), s.WarmedH vm₁ ∧ Stand p l e R s m args below meth c B.U B.locs B.cells B.slots ∧ PostX ⟨T.setVm vm₁, locs, cells, slots⟩ (Value.ref b :: argsL).toArray q B ∧
      Steps p.tables e below (T.setTop g) ((B.U.setTop { g with stack := rest }).pushFrame (.throwing q))) := by
  obtain ⟨mk, methM, hnamed, hmethM, hstM, habM⟩ := Cond.instanceMethod_spec hinst
  obtain ⟨methM', cM, hmethM', -, -, -, -, -, -, hsigM⟩ := Cond.code_spec hnamed hcode
  cases hmethM.symm.trans hmethM'
  obtain ⟨c2, r2, m2, q1, q2, q3, q4, kP, hkP, hkPi⟩ := Cond.selects_spec hsel
  cases hcls.symm.trans q1
  cases (State.methodFound?_of_named hnamed hy).symm.trans q2
  cases hnamed.symm.trans q3
  have hselP : selectMethod e.platform s.vm cellB.cls mk = .method mk := by rw [Launch.admits_selectMethod X.admits]; exact q4
  obtain ⟨vm₁, X₁, hstep₁⟩ := X.invokevirtual hexec hown hlink hnamed hmethM hstM hkP hkPi hy (a := b) (cell := cellB) hcell
    (fun z h => by rw [h] at hobj; cases hobj) hselP hmethM habM hkP hkPi (g := g) hg (argsL := argsL) (rest := rest) (hlen _ hsigM) hstack hdg
  rcases hK m meth c ⟨T.setVm vm₁, locs, cells, slots⟩ { g with stack := rest } (.invokevirtual index) mk (Value.ref b :: argsL).toArray X₁ hg hsize hdg hW (X₁.named hnamed) (hpre vm₁ X₁.warmed) with ⟨v, B, X', hpost, hsteps⟩ | ⟨q, B, X', hpost, hsteps⟩
  · exact Or.inl ⟨v, vm₁, B, X₁.warmed, X', hpost, fun target h => hstep₁ _ fun acts => by rw [doInvoke_state]; exact hsteps.trans h⟩
  · exact Or.inr ⟨q, vm₁, B, X₁.warmed, X', hpost, hstep₁ _ fun acts => by rw [doInvoke_state]; exact hsteps⟩
end Calls
theorem vx_cls {s : State} {T : State} {vm₁ : Vm} {E : String} {k : ClassId} (hW : s.WarmedH vm₁) (h : (T.setVm vm₁).vm.findClass E = some k) : s.vm.findClass E = some k := by
  have h1 : vm₁.findClass E = some k := h
  rw [hW.alike.findClass] at h1
  exact h1
/-- the method's frame g, with q thrown over it -/
def vx_W (p : Program) (l : Launch) (e : Env) (R : Room) (s : State) (m : MethodId) (args : Array Value) (below : List Frame) (meth : Method) (c : Code) (H : Heap) (locs : List Loc) (cells slots : Nat) (Q : State → Prop) (g : JFrame) (q : Addr) : Prop :=
  ∀ T : State, T.heap = H → Stand p l e R s m args below meth c T locs cells slots → ∃ t, Steps p.tables e below ((T.setTop g).pushFrame (.throwing q)) t ∧ Q t
def vx_Run (p : Program) (l : Launch) (e : Env) (R : Room) (s : State) (m : MethodId) (args : Array Value) (below : List Frame) (meth : Method) (c : Code) (H : Heap) (locs : List Loc) (cells slots mc ms : Nat) (g : JFrame) (rest : List Value) (Qa : State → Outcome → State → Prop) (XC : String → State → State → Prop) (free : Addr → Prop) : Prop :=
  ∀ T : State, T.heap = H → Stand p l e R s m args below meth c T locs cells slots →
    (∃ (v : Option Value) (st₀ t T' : State) (L : List Loc), st₀.heap = H ∧ Stand p l e R s m args below meth c T' (locs ++ L) (cells + mc) (slots + ms) ∧ (∀ q ∈ L, free q.base) ∧ T'.heap = t.heap ∧ T'.vm = t.vm ∧ Qa st₀ (.returned v) t ∧
      Goes p e below T g T' { g with pc := g.pc + 3, stack := v.toList ++ rest }) ∨
    (∃ (q : Addr) (st₀ t T' : State) (L : List Loc) (E : String) (ce : Cell), st₀.heap = H ∧ Stand p l e R s m args below meth c T' (locs ++ L) (cells + mc) (slots + ms) ∧ (∀ z ∈ L, free z.base) ∧ T'.heap = t.heap ∧ T'.vm = t.vm ∧ XC E st₀ t ∧ t.heap[q]? = some ce ∧ ce.vm = .none ∧ s.vm.findClass E = some ce.cls ∧
      Steps p.tables e below (T.setTop g) ((T'.setTop { g with stack := rest }).pushFrame (.throwing q)))
section Runs
variable {p : Program} {l : Launch} {e : Env} {R : Room} {s : State} {m : MethodId} {args : Array Value} {below : List Frame} {meth : Method} {c : Code} {H : Heap} {locs : List Loc} {cells slots : Nat}
variable {y : MethodName} {bytes cc : ByteArray} {maxL nL mc ms n index : Nat} {ret : Option FieldType} {ws : List Cond} {rm : Room} {Pc : Array Value → State → Prop} {Qc : Array Value → State → Outcome → State → Prop} {XC : String → State → State → Prop} {free : Addr → Prop} {Ts : List Cond} {own C : String} {b : Addr} {As rest : List Value} {g : JFrame}
theorem vx_callBack (cb : CallB R s args own index y bytes maxL ret ws rm mc ms n) (hM : vx_Met l y ws rm Pc Qc XC mc ms free) (hbl : FrameBlind Pc) : vx_Back l R p e below s args y 3 8 (PreOf R mc ms Pc) (PostOf Qc mc ms free) (vx_Post XC mc ms free) := by
  obtain ⟨hrc, hrs, hfr, hlo, hws, hcw, -, hini, -⟩ := cb
  exact vx_back (bytes := bytes) (maxL := maxL) (ret := ret) hM hbl hrc hrs hfr hlo hws hcw (fun a' U hW => word_at hW (Or.inl (by first | rfl | simp [Cond.onTables, Cond.keeps, Cond.steady])) hini)
theorem vx_runV (S : CallFix p m c cc nL s args Ts own) (hM : vx_Met l y ws rm Pc Qc XC mc ms free) (cw : CallW R s args own C index y bytes maxL ret ws rm mc ms n) (hp : PreV s H C b Pc As)
    (hg : g.method = m) (hn : As.length = n) (hsize : g.locals.size = nL) (hstack : g.stack = As.reverse ++ .ref b :: rest) (hW : 2 * g.monitorRoom + (rest.map fun v => v.category).sum ≤ 8) (hdg : decode cc g.pc = .ok (.invokevirtual index, 3)) (hf : cells + mc ≤ R.cells ∧ slots + ms ≤ R.slots) :
    vx_Run p l e R s m args below meth c H locs cells slots mc ms g rest (Qc (Value.ref b :: As).toArray) XC free := by
  have hK : vx_Back l R p e below s args y 3 8 (PreOf R mc ms Pc) (PostOf Qc mc ms free) (vx_Post XC mc ms free) := vx_callBack cw.1 hM hp.1
  obtain ⟨⟨-, -, -, -, -, -, hcode, -, hy, hlen, hl⟩, hin, hse⟩ := cw
  obtain ⟨hx, hb, hml, ho, -⟩ := S
  obtain ⟨-, ⟨cellB, hcB, hoB, hclB⟩, hPc⟩ := hp
  intro T hT X
  rcases vx_callV X hx (C := C) (bytes := bytes) (maxL := maxL) (ret := ret) ho hl hin hse hcode hy hK (by rw [hT]; exact hcB) hoB hclB hg (hsize.trans hml.symm) (argsL := As) (rest := rest) (fun sig h => hn.trans (hlen sig h)) hstack hW (by rw [hb]; exact hdg)
    (fun vm₁ hW₁ => ⟨hf.1, hf.2, hPc (T.setVm vm₁) hT hW₁⟩) with ⟨v, vm₁, ⟨U', l2, c2, s2⟩, hW₁, X', ⟨g', mk, t, L, e1, e2, hq, h1, hL, h2, h3⟩, st⟩ | ⟨q, vm₁, ⟨U', l2, c2, s2⟩, hW₁, X', ⟨g', mk, t, L, E, ce, e1, e2, hq, hce, hcv, hcl, h1, hL, h2, h3⟩, st⟩
  · dsimp only [Pt.U, Pt.locs, Pt.cells, Pt.slots] at X' e1 e2 h1 h2 h3 st
    subst h1; subst h2; subst h3
    exact Or.inl ⟨v, (T.setVm vm₁).calling g' mk (Value.ref b :: As).toArray, t, U', L, hT, X', hL, e1, e2, hq, st⟩
  · dsimp only [Pt.U, Pt.locs, Pt.cells, Pt.slots] at X' e1 e2 h1 h2 h3 st hcl
    subst h1; subst h2; subst h3
    exact Or.inr ⟨q, (T.setVm vm₁).calling g' mk (Value.ref b :: As).toArray, t, U', L, E, ce, hT, X', hL, e1, e2, hq, hce, hcv, vx_cls hW₁ hcl, st⟩
end Runs
section Rows
variable {p : Program} {l : Launch} {e : Env} {R : Room} {s : State} {m : MethodId} {args : Array Value} {below : List Frame} {meth : Method} {c : Code} {H : Heap} {locs : List Loc} {cells slots : Nat} {Q : State → Prop}
variable {mc ms : Nat} {free : Addr → Prop} {A0 A1 : Nat → Prop} {H0 : Heap} {a : Array Value} {pc : Nat} {ls : Array Slot} {st0 rest : List Value}
end Rows
section Ends
variable {p : Program} {l : Launch} {e : Env} {R : Room} {s : State} {m : MethodId} {args : Array Value} {below : List Frame} {meth : Method} {c : Code} {H : Heap} {locs : List Loc} {cells slots : Nat} {Q : State → Prop}
variable {mc ms : Nat} {free : Addr → Prop} {A0 A1 : Nat → Prop} {H0 : Heap} {a : Array Value} {ls : Array Slot} {st0 rest : List Value}
variable {Qc : Array Value → State → Outcome → State → Prop} {XC : String → State → State → Prop}
/-- what a body that may throw owes at its end -/
def vx_MQ (below : List Frame) (Qc : Array Value → State → Outcome → State → Prop) (XC : String → State → State → Prop) (a : Array Value) (s : State) (mc ms : Nat) (free : Addr → Prop) : State → Prop := fun t =>
  ∃ o, t.status = .running ∧ Ended t below o ∧ vx_Q Qc XC mc ms free a s o t
theorem vx_ret {g : JFrame} {mc ms : Nat} (k : W p l e R s m args below meth c H locs cells slots (MQ below Qc args s mc ms free) g) : W p l e R s m args below meth c H locs cells slots (vx_MQ below Qc XC args s mc ms free) g := by
  intro T hT X
  obtain ⟨t, a1, o, b1, b2, b3, b4⟩ := k T hT X
  exact ⟨t, a1, o, b1, b2, Or.inl ⟨b3, b4⟩⟩
theorem vx_out {pc : Nat} {E : String} {ce : Cell} {q : Addr} {mc ms : Nat} (hout : ∀ x ∈ c.exceptionTable.toList, covers x pc = false) (hlocks : meth.locks = false) (hcell : H[q]? = some ce) (hv : ce.vm = .none) (hcl : s.vm.findClass E = some ce.cls)
    (hx : ∀ t : State, t.heap = H → s.vm.Alike t.vm → XC E s t) (hf : ∀ z ∈ locs, free z.base) (hc : cells ≤ mc) (hs : slots ≤ ms) :
    vx_W p l e R s m args below meth c H locs cells slots (vx_MQ below Qc XC args s mc ms free) (F0 m pc ls rest) q := by
  intro T hT X
  obtain ⟨st1, hrun, hend, hW, hsm⟩ := X.leaveThrown q (g := F0 m pc ls rest) rfl rfl rfl hout hlocks
  have hcell9 : (T.setFrames (.throwing q :: below)).heap[q]? = some ce := by
    show T.heap[q]? = some ce
    rw [hT]; exact hcell
  exact ⟨_, st1, .threw q, hrun, hend, Or.inr ⟨q, rfl, E, ce, locs, hx _ hT hW.alike, hcell9, hv, hcl, hW, hsm.mono hc hs, hf⟩⟩
theorem vx_frame {U : State} {k n : Nat} (h : s.sameButNew ({ U with vm := s.vm } : State) locs k n) : s.heap.size ≤ U.heap.size ∧ ∀ q : Nat, q < s.heap.size → (∀ z ∈ locs, z.base ≠ q) → U.heap[q]? = s.heap[q]? := by
  obtain ⟨-, h2, -, -, -, h6⟩ := h
  refine ⟨h2, fun q hq hz => ?_⟩
  obtain ⟨c9, e1, e2, e3, e4⟩ := h6 q _ (Array.getElem?_eq_getElem hq)
  have hs : c9.slots = (s.heap[q]).slots := Array.ext_getElem? fun i => e4 i fun hm => hz _ hm rfl
  have h9 : c9 = s.heap[q] := by
    rw [hs] at e2
    exact e2
  have e5 : U.heap[q]? = some c9 := e1
  rw [e5, h9, Array.getElem?_eq_getElem hq]
/-- the words of a throw but the four that speak of the heap -/
def vx_no (w : Cond) : Bool := decide (w ≠ .isRef (.static Bundle.tN "UNASSIGNED_STACK" Bundle.steD)) && decide (w ≠ .isRef (.static Bundle.tN "SUPPRESSED_SENTINEL" Bundle.listD)) && decide (w ≠ .laysStatic Bundle.tN "UNASSIGNED_STACK" Bundle.steD) && decide (w ≠ .laysStatic Bundle.tN "SUPPRESSED_SENTINEL" Bundle.listD)
def vx_atS (own : String) (ic : Nat) (X : String) (names : List String) : List Cond := (Bundle.ownAtoms own ic X names).filter vx_no
/-- a word that the tables alone decide, or a good one -/
def vx_ot (w : Cond) : Bool := w.onTables || goodWord w
theorem vx_ot_at {args a' : Array Value} {s U : State} {w : Cond} (hW : s.WarmedH U.vm) (hvm : s.vm = U.vm) (hg : vx_ot w = true) (h : w.before args s = true) : w.before a' U = true := by
  simp only [vx_ot, Bool.or_eq_true] at hg
  rcases hg with hg | hg
  · exact va_tabs hg hvm h
  · exact word_at hW (good_of_word hg) h
theorem vx_own {args : Array Value} {s : State} {L : List Cond} (h1 : ∀ w ∈ L.filter vx_no, w.before args s = true)
    (hU : (Cond.isRef (.static Bundle.tN "UNASSIGNED_STACK" Bundle.steD)).before args s = true) (hN : (Cond.isRef (.static Bundle.tN "SUPPRESSED_SENTINEL" Bundle.listD)).before args s = true)
    (lU : (Cond.laysStatic Bundle.tN "UNASSIGNED_STACK" Bundle.steD).before args s = true) (lN : (Cond.laysStatic Bundle.tN "SUPPRESSED_SENTINEL" Bundle.listD).before args s = true) : ∀ w ∈ L, w.before args s = true := by
  intro w hw
  by_cases e1 : w = .isRef (.static Bundle.tN "UNASSIGNED_STACK" Bundle.steD)
  · rw [e1]; exact hU
  · by_cases e2 : w = .isRef (.static Bundle.tN "SUPPRESSED_SENTINEL" Bundle.listD)
    · rw [e2]; exact hN
    · by_cases e3 : w = .laysStatic Bundle.tN "UNASSIGNED_STACK" Bundle.steD
      · rw [e3]; exact lU
      · by_cases e4 : w = .laysStatic Bundle.tN "SUPPRESSED_SENTINEL" Bundle.listD
        · rw [e4]; exact lN
        · exact h1 w (List.mem_filter.mpr ⟨hw, by unfold vx_no; rw [decide_eq_true e1, decide_eq_true e2, decide_eq_true e3, decide_eq_true e4]; rfl⟩)
/-- where a static field lies, its class's statics cell in H -/
def vx_L (C n d : String) (A : Nat → Prop) (U : State) (H : Heap) : Prop := ∃ (c : ClassId) (k : Class) (i : Nat) (f : Field) (a : Nat) (cell : Cell), U.vm.findClass C = some c ∧ U.fieldFound? C n d = some (c, k, i, f) ∧ f.isStatic = true ∧ k.statics = some a ∧ H[a]? = some cell ∧ cell.vm.isStatics = true ∧ cell.cls = c ∧ f.slot < cell.slots.size ∧ k.staticTypes[f.slot]? = some f.type ∧ ¬ A a
theorem vx_L.moved {C n d : String} {A : Nat → Prop} {u U : State} {H : Heap} (hvm : u.vm.Alike U.vm) (h : vx_L C n d A u H) : vx_L C n d A U H := by
  obtain ⟨c, k, i, f, a, cell, h1, h2, h3, h4, h5, h6, h7, h8, h9, h10⟩ := h
  obtain ⟨k', hi', he⟩ := State.fieldFound?_setVm hvm h2
  exact ⟨c, k', i, f, a, cell, by rw [hvm.findClass]; exact h1, hi', h3, by rw [he]; exact h4, h5, h6, h7, h8, by rw [he]; exact h9, h10⟩
theorem vx_L.kept {C n d : String} {A : Nat → Prop} {U : State} {H H1 : Heap} (h : vx_L C n d A U H) (hq : ∀ a : Nat, a < H.size → ¬ A a → H1[a]? = H[a]?) : vx_L C n d A U H1 := by
  obtain ⟨c, k, i, f, a, cell, h1, h2, h3, h4, h5, h6, h7, h8, h9, h10⟩ := h
  exact ⟨c, k, i, f, a, cell, h1, h2, h3, h4, by rw [hq a (Array.getElem?_eq_some_iff.mp h5).1 h10]; exact h5, h6, h7, h8, h9, h10⟩
theorem vx_L.narrow {C n d : String} {A B : Nat → Prop} {U : State} {H : Heap} (h : vx_L C n d A U H) (hAB : ∀ q, B q → A q) : vx_L C n d B U H := by
  obtain ⟨c, k, i, f, a, cell, h1, h2, h3, h4, h5, h6, h7, h8, h9, h10⟩ := h
  exact ⟨c, k, i, f, a, cell, h1, h2, h3, h4, h5, h6, h7, h8, h9, fun z => h10 (hAB _ z)⟩
theorem vx_L.word {C n d : String} {A : Nat → Prop} {s : State} {args : Array Value} (h : vx_L C n d A s s.heap) : (Cond.laysStatic C n d).before args s = true := by
  obtain ⟨c, k, i, f, a, cell, h1, h2, h3, h4, h5, h6, h7, h8, h9, -⟩ := h
  show (Cond.laysStatic C n d).holds args s none s [] = true
  exact Cond.laysStatic_of h1 h2 h3 h4 h5 h6 h7 h8 h9
/-- .. and what it holds: null or some reference -/
def vx_Zq (C n d : String) (A : Nat → Prop) (U : State) (H : Heap) : Prop := va_Zq C n d A U H ∧ vx_L C n d A U H
theorem vx_Zq.moved {C n d : String} {A : Nat → Prop} {u U : State} {H : Heap} (hvm : u.vm.Alike U.vm) (h : vx_Zq C n d A u H) : vx_Zq C n d A U H := ⟨va_Zq.moved hvm h.1, vx_L.moved hvm h.2⟩
theorem vx_Zq.kept {C n d : String} {A : Nat → Prop} {U : State} {H H1 : Heap} (h : vx_Zq C n d A U H) (hq : ∀ a : Nat, a < H.size → ¬ A a → H1[a]? = H[a]?) : vx_Zq C n d A U H1 := ⟨va_Zq.kept h.1 hq, vx_L.kept h.2 hq⟩
theorem vx_Zq.narrow {C n d : String} {A B : Nat → Prop} {U : State} {H : Heap} (h : vx_Zq C n d A U H) (hAB : ∀ q, B q → A q) : vx_Zq C n d B U H := ⟨va_Zq.narrow h.1 hAB, vx_L.narrow h.2 hAB⟩
theorem vx_Zqof {args : Array Value} {s : State} {C n d : String} {A : Nat → Prop} (hl : (Cond.laysStatic C n d).before args s = true) (hini : (Cond.initialized C).before args s = true) (h : (Cond.isRef (.static C n d)).before args s = true) (hA : ∀ a : Nat, a < s.heap.size → ¬ A a) : vx_Zq C n d A s s.heap := by
  refine ⟨va_Zqof hl hini h hA, ?_⟩
  obtain ⟨c, k, i, f, a, cell, h1, h2, h3, h4, h5, h6, h7, h8, h9⟩ := Cond.laysStatic_spec hl
  exact ⟨c, k, i, f, a, cell, h1, h2, h3, h4, h5, h6, h7, h8, h9, hA a (Array.getElem?_eq_some_iff.mp h5).1⟩
theorem vx_isRef {C n d : String} {v : Value} {A : Nat → Prop} {s : State} {args : Array Value} (h : va_Z C n d v A s s.heap) (hv : v.isRef = true) : (Cond.isRef (.static C n d)).before args s = true := by
  obtain ⟨cf, kf, fi, f, a, cell, h1, h2, h3, h4, h5, h6, h7, -⟩ := h
  have he : (Term.static C n d).eval args s none [] s = some v := by
    simp [Term.eval, State.fieldNamed?, h1, h2, h4, h5, h6, h7]
  simp only [Cond.before, Cond.holds, Cond.value, he]
  cases v <;> simp_all [Value.isRef]
theorem vx_isRefq {C n d : String} {A : Nat → Prop} {s : State} {args : Array Value} (h : va_Zq C n d A s s.heap) : (Cond.isRef (.static C n d)).before args s = true := by
  rcases h with h | ⟨t, h⟩
  · exact vx_isRef h rfl
  · exact vx_isRef h rfl
/-- the same frame, seen from here: as if the method were called anew in this heap -/
theorem vx_rebase {T : State} (X : Stand p l e R s m args below meth c T locs cells slots) {R' : Room} (hf : R'.frames ≤ R.frames) (hl : R'.locals ≤ R.locals) (hc : cells + R'.cells ≤ R.cells) (hs : slots + R'.slots ≤ R.slots) :
    Stand p l e R' ((T.setVm s.vm).setFrames (.invoking m args :: below)) m args below meth c T [] 0 0 := by
  have htop : (T.setVm s.vm).topJava?.isSome := X.here.top
  have hF : ((T.setVm s.vm).setFrames (.invoking m args :: below)).frames = .invoking m args :: below := State.frames_setFrames _ (State.cur_lt_of_top htop)
  obtain ⟨g₀, hg0⟩ := Option.isSome_iff_exists.mp htop
  obtain ⟨r, hr⟩ := State.topJava?_eq_some.mp hg0
  have hl9 : e.platform.stackLimits (T.setVm s.vm).me = e.platform.stackLimits s.me := X.limits
  have hb9 : (T.setVm s.vm).me.stackBytes = s.me.stackBytes := X.bytes
  refine ⟨X.admits, X.cas, X.clock, hF, ?_, X.hears, X.method, X.code, X.here, X.tail, X.warmed, ?_, ?_, ?_⟩
  · have h := X.room
    have hU : ((T.setVm s.vm).setFrames (.invoking m args :: below)).localsInUse = s.localsInUse := by
      rw [State.localsInUse_invoking hF (meth := meth) (c := c) X.method X.code, State.localsInUse_invoking X.frames X.method X.code]
    simp only [State.hasRoom, Bool.and_eq_true, decide_eq_true_eq] at h ⊢
    obtain ⟨⟨⟨⟨h1, h2, h3, h4, h5, h6⟩, h7⟩, h8⟩, h9⟩ := h
    rw [X.frames, List.length_cons] at h2 h3
    have q1 := X.heapSize
    have q2 := X.used
    simp only [hF, hU, List.length_cons, State.stackLimits_setFrames, State.stackBytes_setFrames, hl9, hb9]
    refine ⟨⟨⟨⟨by omega, by omega, by omega, by omega, by omega, h6⟩, ?_⟩, ?_⟩, X.book⟩
    · show T.heap.size + R'.cells ≤ e.platform.maxCells
      omega
    · show T.slotsUsed + R'.slots ≤ e.platform.maxSlots
      omega
  · rw [State.stackLimits_setFrames]; rfl
  · rw [State.stackBytes_setFrames]; rfl
  · refine ⟨?_, Nat.le_refl _, Nat.le_refl _, ?_, ?_, fun a c9 h9 => ⟨c9, h9, rfl, rfl, fun _ _ => rfl⟩⟩
    · obtain ⟨t, ht, -⟩ := State.frames_cons hr
      show T.setVm s.vm = { ((T.setVm s.vm).setFrames (.invoking m args :: below)).setFrames (T.setVm s.vm).frames with heap := T.heap, slotsUsed := T.slotsUsed }
      rw [State.setFrames_setFrames, State.setFrames_self ht]
      rfl
    · show T.slotsUsed = T.slotsUsed + ((T.heap.toList.drop T.heap.size).map (·.slots.size)).sum
      rw [List.drop_eq_nil_of_le (Nat.le_of_eq Array.length_toList)]
      rfl
    · show ((T.heap.toList.drop T.heap.size).map (·.slots.size)).sum ≤ 0
      rw [List.drop_eq_nil_of_le (Nat.le_of_eq Array.length_toList)]
      exact Nat.le_refl _
/-- 'throw new E("text")': new; dup; ldc; invokespecial; athrow -/
theorem vx_throwS {cc : ByteArray} {pc : Nat} (hexec : p.tables.exec = Jvm.exec) (hb : c.code = cc) (hl : l.stackTraces = false) {own cls text : String} {names : List String} {ik is ic mc ms sa : Nat} {A : Nat → Prop}
    (hown : s.vm.findClass own = some m.cls) (hcls : Bundle.fit cls = true) (hnames : ∀ n ∈ names, Bundle.fit n = true)
    (hk : (Cond.classLink own ik cls).before args s = true) (hini : (Cond.initialized cls).before args s = true) (hstr : vk_R own is text sa s) (hat : ∀ w ∈ vx_atS own ic cls names, w.before args s = true)
    (hgood : ∀ w ∈ Cond.classLink own ik cls :: Cond.initialized cls :: vx_atS own ic cls names, vx_ot w = true)
    (hU : vx_Zq Bundle.tN "UNASSIGNED_STACK" Bundle.steD A s s.heap) (hN : vx_Zq Bundle.tN "SUPPRESSED_SENTINEL" Bundle.listD A s s.heap) (hS : va_S A s.heap H locs) (hsize : ls.size = c.maxLocals)
    (d0 : decode cc pc = .ok (.new ik, 3)) (d3 : decode cc (pc + 3) = .ok (.dup, 1)) (d4 : decode cc (pc + 4) = .ok (.ldc is, 2)) (d6 : decode cc (pc + 6) = .ok (.invokespecial ic, 3)) (d9 : decode cc (pc + 9) = .ok (.athrow, 1))
    (hout : ∀ x ∈ c.exceptionTable.toList, covers x (pc + 9) = false)
    (hRframes : names.length + 3 < R.frames) (hRlocals : (rest.map fun v => v.category).sum + (13 * (names.length + 1) + 43) ≤ R.locals) (hRcells : cells + 1 ≤ R.cells) (hRslots : slots + 6 ≤ R.slots) (hlocks : meth.locks = false)
    (hx : ∀ t : State, s.vm.Alike t.vm → H.size ≤ t.heap.size → (∀ q : Nat, q < H.size → t.heap[q]? = H[q]?) → XC cls s t)
    (hf : ∀ z ∈ locs, free z.base) (hc : cells + 1 ≤ mc) (hs : slots + 6 ≤ ms) :
    W p l e R s m args below meth c H locs cells slots (vx_MQ below Qc XC args s mc ms free) (F0 m pc ls rest) := by
  intro T hT X
  have htr : e.platform.stackTraces = false := (show e.platform.stackTraces = l.stackTraces by rw [X.admits.platform]).trans hl
  have Y := vx_rebase X (R' := { frames := R.frames, locals := R.locals, cells := 1, slots := 6 }) (Nat.le_refl _) (Nat.le_refl _) hRcells hRslots
  obtain ⟨s', hA⟩ : ∃ z, z = (T.setVm s.vm).setFrames (.invoking m args :: below) := ⟨_, rfl⟩
  rw [← hA] at Y
  have hvm : s'.vm = s.vm := by rw [hA]; rfl
  have hhp : s'.heap = H := by rw [hA]; exact hT
  have hW0 : s.WarmedH s'.vm := by rw [hvm]; exact State.WarmedH.refl s
  have hat' : ∀ w ∈ vx_atS own ic cls names, w.before args s' = true := fun w hw => vx_ot_at hW0 hvm.symm (hgood w (List.mem_cons_of_mem _ (List.mem_cons_of_mem _ hw))) (hat w hw)
  have hk' : (Cond.classLink own ik cls).before args s' = true := vx_ot_at hW0 hvm.symm (hgood _ List.mem_cons_self) hk
  have hini' : (Cond.initialized cls).before args s' = true := vx_ot_at hW0 hvm.symm (hgood _ (List.mem_cons_of_mem _ List.mem_cons_self)) hini
  have hU' : vx_Zq Bundle.tN "UNASSIGNED_STACK" Bundle.steD A s' s'.heap := by rw [hhp]; exact vx_Zq.moved hW0.alike (hU.kept hS.2.1)
  have hN' : vx_Zq Bundle.tN "SUPPRESSED_SENTINEL" Bundle.listD A s' s'.heap := by rw [hhp]; exact vx_Zq.moved hW0.alike (hN.kept hS.2.1)
  have h : ∀ w ∈ Bundle.ownAtoms own ic cls names, w.before args s' = true := vx_own hat' (vx_isRefq hU'.1) (vx_isRefq hN'.1) hU'.2.word hN'.2.word
  have hown' : s'.vm.findClass own = some m.cls := by rw [hvm]; exact hown
  have hins : (Cond.instantiable cls 6).before args s' = true := h _ (by simp [Bundle.ownAtoms])
  obtain ⟨vm₁, cX, kX, hfX, hkX, -, -, X₁, st1⟩ := Y.newCold hexec (own := own) (C := cls) (index := ik) (n := 6) hown' hk' hins hini'
    (g := F0 m pc ls rest) rfl (by rw [hb]; exact d0) (Nat.le_refl _) (Nat.le_refl _)
  generalize hT1 : (T.setVm vm₁).pushCell { cls := cX, slots := kX.instanceTypes.map defaultValue, vm := .none } = T1 at X₁ st1
  have hcat : (Value.ref T.heap.size).category = 1 := rfl
  have hcellA : T1.heap[T.heap.size]? = some (freshCell cX kX) := by rw [← hT1]; exact State.heap_pushCell_size _ _
  have d3' : decode c.code (pc + 3) = .ok (.dup, 1) := by rw [hb]; exact d3
  have d4' : decode c.code (pc + 4) = .ok (.ldc is, 2) := by rw [hb]; exact d4
  have hstr' : vk_R own is text sa s' := vk_R.warm hW0 hstr
  obtain ⟨U, hsteps, hrun, hend, hW, hsame, ce, hce, hO⟩ := X₁.ctorThrowS hexec htr (own := own) (cls := cls) (names := names) (ic := ic) hown' hcls hnames h (fun x hx => nomatch hx) hfX hkX hcellA (by rw [hhp, hT]; exact Nat.le_refl _) (msg := .ref sa) rfl
    (g := { method := m, pc := pc + 6, locals := ls, stack := .ref sa :: .ref T.heap.size :: .ref T.heap.size :: rest, locked := none }) rfl hsize rfl rfl (rest := rest) rfl
    (by rw [hb]; exact d6) (by rw [hb]; exact d9) hout hRframes (by simp only [List.map_cons, List.sum_cons, hcat]; omega) hlocks
  obtain ⟨f1, f2⟩ := vx_frame hsame
  rw [hhp] at f1 f2
  have hWs : s.WarmedH U.vm := State.WarmedH.trans hW0 hW
  have hcl : s.vm.findClass cls = some ce.cls := by
    have h9 := hO.cls
    rw [hvm] at h9
    exact h9
  have hall : s.sameButNew ({ U with vm := s.vm } : State) locs mc ms := by
    subst hA
    obtain ⟨e1, e2⟩ := hsame
    rw [State.setFrames_setFrames] at e1
    have h2 : (T.setVm s.vm).sameButNew ({ U with vm := s.vm } : State) [] (0 + 1) (0 + 6) := ⟨e1, e2⟩
    have h3 := X.same.trans h2
    rw [List.append_nil] at h3
    exact h3.mono hc hs
  refine ⟨U, ?_, .threw T.heap.size, hrun, hend, Or.inr ⟨T.heap.size, rfl, cls, ce, locs, hx U hWs.alike f1 (fun q hq => f2 q hq (fun z hz => nomatch hz)), hce, hO.vm, hcl, hWs, hall, hf⟩⟩
  refine st1 _ ?_
  show Steps p.tables e below (T1.setTop { method := m, pc := pc + 3, locals := ls, stack := .ref T.heap.size :: rest, locked := none }) _
  jvm_step X₁.here [X₁.here.top, hexec, d3', Value.category]
  exact X₁.ldcString hexec (own := own) (text := text) (index := is) (a := sa) hown' hstr'.1 hstr'.2
    (g := { method := m, pc := pc + 4, locals := ls, stack := .ref T.heap.size :: .ref T.heap.size :: rest, locked := none }) rfl d4' _ hsteps
end Ends
section Bodies
variable {l : Launch}
theorem vx_ofW {y : MethodName} {ws ws' : List Cond} {rm : Room} {Pc : Array Value → State → Prop} {Qc : Array Value → State → Outcome → State → Prop} {XC : String → State → State → Prop} {mc ms : Nat} {free : Addr → Prop} {cc : ByteArray} {maxL : Nat} {ret : Option FieldType}
    (hy : plainName y.cls = true) (hw : ws = Cond.code y cc maxL ret :: ws')
    (body : ∀ p e s m args below meth c s₁, BodyLoose p l y (headSpec ws rm) cc maxL ret e s m args below meth c s₁ → c.maxLocals = maxL → (∀ x ∈ c.exceptionTable.toList, False) → Pc args s →
      W p l e (headSpec ws rm).room s m args below meth c s.heap [] 0 0 (vx_MQ below Qc XC args s mc ms free) (entryFrame m args maxL)) : vx_Met l y ws rm Pc Qc XC mc ms free := by
  refine MetFree.of_bodyS (code := cc) (maxLocals := maxL) (ret := ret) hy ?_ ?_
  · intro args s m h hn
    obtain ⟨meth, c, h1, h2, h3, h4, h5, h6, -, -⟩ := Cond.code_spec hn (atoms_spec (ws := ws) h _ (by rw [hw]; exact List.mem_cons_self))
    exact ⟨meth, c, h1, h2, h3, h4, h5, h6⟩
  · intro p e s m args below meth c s₁ B hml hP _
    have hh0 : s₁.heap = s.heap := by rw [B.state]; rfl
    have ht : ∀ x ∈ c.exceptionTable.toList, False := by
      obtain ⟨meth9, c9, h1, h2, -, -, -, -, h7, -⟩ := Cond.code_spec B.named (atoms_spec (ws := ws) B.pre _ (by rw [hw]; exact List.mem_cons_self))
      cases Option.some.inj (h1.symm.trans B.method)
      cases Option.some.inj (h2.symm.trans (Stand.of_body B).code)
      intro x hx
      rw [Array.isEmpty_iff.mp h7] at hx
      cases hx
    obtain ⟨t, a1, o, b1, b2, b3⟩ := body p e s m args below meth c s₁ B hml ht hP s₁ hh0 (Stand.of_body B)
    exact ⟨t, o, a1, b1, b2, b3⟩
/-- the table of a body with handlers -/
theorem vx_table {p : Program} {x y : MethodName} {S : Spec} {cc bytes : ByteArray} {maxL maxL' : Nat} {ret ret' : Option FieldType} {e : Env} {s s₁ : State} {m : MethodId} {args : Array Value} {below : List Frame} {meth : Method} {c : Code} {hh : List (Nat × Nat × Nat × Nat)}
    (B : BodyLoose p l y S cc maxL ret e s m args below meth c s₁) (h : (Cond.codeWith y bytes maxL' ret' hh).before args s = true) : c.exceptionTable.toList = tableOf hh := by
  obtain ⟨m9, meth9, c9, hn9, h1, h2, -, -, h6, -⟩ := Cond.codeWith_spec h
  cases Option.some.inj (hn9.symm.trans B.named)
  cases Option.some.inj (h1.symm.trans B.method)
  cases Option.some.inj (h2.symm.trans (Stand.of_body B).code)
  rw [← h6, table_eq]
end Bodies
end VXA
/-! ===== END ===== -/
/-! ===== BEGIN a static call of a method with an exception table ===== -/
section VXS
variable {p : Program} {l : Launch} {e : Env} {R : Room} {s : State} {m : MethodId} {args : Array Value} {below : List Frame} {meth : Method} {c : Code} {T : State} {H : Heap} {locs : List Loc} {cells slots : Nat}
abbrev vx_CSW (R : Room) (s : State) (args : Array Value) (own : String) (index : Nat) (y : MethodName) (bytes : ByteArray) (maxL : Nat) (ret : Option FieldType) (hh : List (Nat × Nat × Nat × Nat)) (ws : List Cond) (rm : Room) (mc ms n : Nat) : Prop :=
  (rm.cells = mc ∧ rm.slots = ms ∧ rm.frames + 1 ≤ R.frames ∧ 8 + (maxL + 11) + rm.locals ≤ R.locals ∧ (∀ w ∈ ws, ∀ (a' : Array Value) (U : State), s.WarmedH U.vm → w.before a' U = true) ∧ Cond.codeWith y bytes maxL ret hh ∈ ws) ∧
  (Cond.codeWith y bytes maxL ret hh).before args s = true ∧ (Cond.initialized y.cls).before args s = true ∧ (y.cls ≠ "java/lang/invoke/MethodHandle" ∧ y.cls ≠ "java/lang/invoke/VarHandle") ∧
  (∀ sig, parseMethodDescriptor y.desc = some sig → n = sig.parameters.length) ∧ (Cond.methodLink own index y).before args s = true ∧ (Cond.static y).before args s = true
theorem vx_callSW (X : Stand p l e R s m args below meth c T locs cells slots) (hexec : p.tables.exec = Jvm.exec) {own : String} {index : Nat} {y : MethodName} {bytes : ByteArray} {maxL : Nat} {ret : Option FieldType} {hh : List (Nat × Nat × Nat × Nat)}
    (hown : s.vm.findClass own = some m.cls) (hlink : (Cond.methodLink own index y).before args s = true) (hstat : (Cond.static y).before args s = true) (hinit : (Cond.initialized y.cls).before args s = true)
    (hcode : (Cond.codeWith y bytes maxL ret hh).before args s = true) (hy : y.cls ≠ "java/lang/invoke/MethodHandle" ∧ y.cls ≠ "java/lang/invoke/VarHandle")
    {W9 : Nat} {Pre : Pt → Array Value → Prop} {Post : Pt → Array Value → Option Value → Pt → Prop} (hK : Back l R p e below s args y 3 W9 Pre Post)
    {g : JFrame} (hg : g.method = m) (hsize : g.locals.size = c.maxLocals) {argsL rest : List Value} (hlen : ∀ sig, parseMethodDescriptor y.desc = some sig → argsL.length = sig.parameters.length)
    (hstack : g.stack = argsL.reverse ++ rest) (hW : 2 * g.monitorRoom + (rest.map fun v => v.category).sum ≤ W9) (hdg : decode c.code g.pc = .ok (.invokestatic index, 3))
    (hpre : ∀ vm₁, s.WarmedH vm₁ → Pre ⟨T.setVm vm₁, locs, cells, slots⟩ argsL.toArray) :
    ∃ (v : Option Value) (vm₁ : Vm) (B : Pt), s.WarmedH vm₁ ∧ Stand p l e R s m args below meth c B.U B.locs B.cells B.slots ∧ Post ⟨T.setVm vm₁, locs, cells, slots⟩ argsL.toArray v B ∧
      ∀ target, Steps p.tables e below (B.U.setTop { g with pc := g.pc + 3, stack := v.toList ++ rest }) target → Steps p.tables e below (T.setTop g) target := by
  obtain ⟨mk, methM, cM, hnamed, hmethM, -, -, -, -, -, -, hsigM⟩ := Cond.codeWith_spec hcode
  have hstatic : methM.isStatic = true := Cond.static_spec hnamed hmethM hstat
  obtain ⟨kP, hkP, -⟩ := className_of_methodNamed hnamed
  have hinitP : kP.init = .initialized := Cond.initialized_spec (findClass_of_methodNamed hnamed) hkP hinit
  obtain ⟨vm₁, X₁, hstep₁⟩ := X.invokestatic hexec hown hlink hnamed hmethM hstatic hkP hinitP hy (g := g) hg (argsL := argsL) (rest := rest) (hlen _ hsigM) hstack hdg
  obtain ⟨v, B, X', hpost, hsteps⟩ := hK m meth c ⟨T.setVm vm₁, locs, cells, slots⟩ { g with stack := rest } (.invokestatic index) mk argsL.toArray X₁ hg hsize hdg hW (X₁.named hnamed) (hpre vm₁ X₁.warmed)
  exact ⟨v, vm₁, B, X₁.warmed, X', hpost, fun target h => hstep₁ _ fun acts => by rw [doInvoke_state]; exact hsteps.trans h⟩
theorem vx_runSW {y : MethodName} {bytes cc : ByteArray} {maxL nL mc ms n index : Nat} {ret : Option FieldType} {hh : List (Nat × Nat × Nat × Nat)} {ws : List Cond} {rm : Room} {Pc : Array Value → State → Prop} {Qc : Array Value → State → Outcome → State → Prop} {free : Addr → Prop} {Ts : List Cond} {own : String} {As rest : List Value} {g : JFrame}
    (S : CallFix p m c cc nL s args Ts own) (hM : Met l y ws rm Pc Qc mc ms free) (cw : vx_CSW R s args own index y bytes maxL ret hh ws rm mc ms n) (hp : PreS s H Pc As)
    (hg : g.method = m) (hn : As.length = n) (hsize : g.locals.size = nL) (hstack : g.stack = As.reverse ++ rest) (hW : 2 * g.monitorRoom + (rest.map fun v => v.category).sum ≤ 8) (hdg : decode cc g.pc = .ok (.invokestatic index, 3)) (hf : cells + mc ≤ R.cells ∧ slots + ms ≤ R.slots) :
    va_Run p l e R s m args below meth c H locs cells slots mc ms g rest (Qc As.toArray) (free) := by
  obtain ⟨⟨hrc, hrs, hfr, hlo, hws, hcw⟩, hcode, hini, hy, hlen, hl, hstt⟩ := cw
  have hK : Back l R p e below s args y 3 8 (PreOf R mc ms Pc) (PostOf Qc mc ms free) := va_backW (hh := hh) (bytes := bytes) (maxL := maxL) (ret := ret) hM hp.1 hrc hrs hfr hlo hws hcw (fun a' U hW => word_at hW (Or.inl (by first | rfl | simp [Cond.onTables, Cond.keeps, Cond.steady])) hini)
  obtain ⟨hx, hb, hml, ho, -⟩ := S
  intro T hT X
  obtain ⟨v, vm₁, ⟨U', l2, c2, s2⟩, hW₁, X', ⟨g', mk, t, L, e1, e2, hq, h1, hL, h2, h3⟩, st⟩ := vx_callSW X hx (hh := hh) (bytes := bytes) (maxL := maxL) (ret := ret) ho hl hstt hini hcode hy hK hg (hsize.trans hml.symm) (argsL := As) (rest := rest) (fun sig h => hn.trans (hlen sig h)) hstack hW (by rw [hb]; exact hdg)
    (fun vm₁ hW₁ => ⟨hf.1, hf.2, hp.2 (T.setVm vm₁) hT hW₁⟩)
  dsimp only [Pt.U, Pt.locs, Pt.cells, Pt.slots] at X' e1 e2 h1 h2 h3 st
  subst h1; subst h2; subst h3
  exact ⟨v, (T.setVm vm₁).calling g' mk As.toArray, t, U', L, hT, X', hL, e1, e2, hq, st⟩
end VXS
/-! ===== END ===== -/
/-! ===== BEGIN methods with a table of their own: called by a name, returning or throwing ===== -/
section VXH
/-! vx_backW, vx_callVX, vx_callSX, vx_callVW, vx_runVW, vx_runVX, vx_runSX, vx_ofWH follow the same proofs as their sisters above (Free/Laws.lean, Shelf42/LK1.lean); vx_outP calls Shelf42/NT130.lean (outThrough). -/
section
variable {l : Launch} {R : Room} {p : Program} {e : Env} {below : List Frame} {s : State} {sargs : Array Value} {y : MethodName} {len W9 : Nat}
end
variable {p : Program} {l : Launch} {e : Env} {R : Room} {s : State} {m : MethodId} {args : Array Value} {below : List Frame} {meth : Method} {c : Code} {T : State} {H : Heap} {locs : List Loc} {cells slots : Nat}
section
variable {y : MethodName} {bytes cc : ByteArray} {maxL nL mc ms n index : Nat} {ret : Option FieldType} {ws : List Cond} {rm : Room} {Pc : Array Value → State → Prop} {Qc : Array Value → State → Outcome → State → Prop} {XC : String → State → State → Prop} {free : Addr → Prop} {Ts : List Cond} {own C : String} {b : Addr} {As rest : List Value} {g : JFrame}
end
end VXH
/-! ===== END ===== -/
end
section
def RX0 : String := "UpdateSteps$Changes"
def TX0 : u_T := fun k => match k with
  | 0 => ("UpdateSteps$Changes", "graph", "[I", true)
  | 1 => ("UpdateSteps$Changes", "fact", "[I", true)
  | 2 => ("UpdateSteps$Changes", "came", "[I", true)
  | _ => ("UpdateSteps$Changes", "count", "I", false)
def tyX0 : Nat → FieldType := fun k => match k with
  | 0 => .array .int
  | 1 => .array .int
  | 2 => .array .int
  | _ => .int
theorem nmX0 : ∀ a, a < 4 → ∀ b, b < 4 → a ≠ b → (TX0 a).2.1 ≠ (TX0 b).2.1 := by decide +kernel
theorem tyX0_ok : ∀ k, k < 4 → parseFieldDescriptor (TX0 k).2.2.1 = some (tyX0 k) := by decide +kernel
abbrev cX0_init : ByteArray := prog_2_method_1_code
def yX0_init : MethodName := ⟨RX0, "<init>", "()V"⟩
abbrev cX0_compare : ByteArray := prog_2_method_2_code
def yX0_compare : MethodName := ⟨RX0, "compare", "(LUpdateSteps$Store;LUpdateSteps$Store;)V"⟩
abbrev cX0_compareGraphs : ByteArray := prog_2_method_3_code
def yX0_compareGraphs : MethodName := ⟨RX0, "compareGraphs", "(ILUpdateSteps$Graph;LUpdateSteps$Graph;)V"⟩
abbrev cX0_note : ByteArray := prog_2_method_4_code
def yX0_note : MethodName := ⟨RX0, "note", "(III)V"⟩
def RX1 : String := "UpdateSteps$FileRows"
def TX1 : u_T := fun k => match k with
  | 0 => ("UpdateSteps$FileRows", "rows", "LUpdateSteps$Rows;", true)
  | _ => ("UpdateSteps$FileRows", "isTorn", "Z", false)
def tyX1 : Nat → FieldType := fun k => match k with
  | 0 => .object "UpdateSteps$Rows"
  | _ => .boolean
theorem nmX1 : ∀ a, a < 2 → ∀ b, b < 2 → a ≠ b → (TX1 a).2.1 ≠ (TX1 b).2.1 := by decide +kernel
theorem tyX1_ok : ∀ k, k < 2 → parseFieldDescriptor (TX1 k).2.2.1 = some (tyX1 k) := by decide +kernel
abbrev cX1_init : ByteArray := prog_3_method_1_code
def yX1_init : MethodName := ⟨RX1, "<init>", "()V"⟩
def RX2 : String := "UpdateSteps$Graph"
def TX2 : u_T := fun k => match k with
  | 0 => ("UpdateSteps$Graph", "facts", "[I", true)
  | 1 => ("UpdateSteps$Graph", "size", "I", false)
  | _ => ("UpdateSteps$Graph", "isThere", "Z", false)
def tyX2 : Nat → FieldType := fun k => match k with
  | 0 => .array .int
  | 1 => .int
  | _ => .boolean
theorem nmX2 : ∀ a, a < 3 → ∀ b, b < 3 → a ≠ b → (TX2 a).2.1 ≠ (TX2 b).2.1 := by decide +kernel
theorem tyX2_ok : ∀ k, k < 3 → parseFieldDescriptor (TX2 k).2.2.1 = some (tyX2 k) := by decide +kernel
abbrev cX2_init : ByteArray := prog_4_method_1_code
def yX2_init : MethodName := ⟨RX2, "<init>", "()V"⟩
abbrev cX2_placeOf : ByteArray := prog_4_method_2_code
def yX2_placeOf : MethodName := ⟨RX2, "placeOf", "(I)I"⟩
abbrev cX2_holds : ByteArray := prog_4_method_3_code
def yX2_holds : MethodName := ⟨RX2, "holds", "(I)Z"⟩
abbrev cX2_insert : ByteArray := prog_4_method_4_code
def yX2_insert : MethodName := ⟨RX2, "insert", "(I)V"⟩
abbrev cX2_remove : ByteArray := prog_4_method_5_code
def yX2_remove : MethodName := ⟨RX2, "remove", "(I)V"⟩
abbrev cX2_become : ByteArray := prog_4_method_6_code
def yX2_become : MethodName := ⟨RX2, "become", "(LUpdateSteps$Graph;)V"⟩
def RX3 : String := "UpdateSteps$Rows"
def TX3 : u_T := fun k => match k with
  | 0 => ("UpdateSteps$Rows", "terms", "[I", true)
  | 1 => ("UpdateSteps$Rows", "most", "I", true)
  | _ => ("UpdateSteps$Rows", "count", "I", false)
def tyX3 : Nat → FieldType := fun k => match k with
  | 0 => .array .int
  | 1 => .int
  | _ => .int
theorem nmX3 : ∀ a, a < 3 → ∀ b, b < 3 → a ≠ b → (TX3 a).2.1 ≠ (TX3 b).2.1 := by decide +kernel
theorem tyX3_ok : ∀ k, k < 3 → parseFieldDescriptor (TX3 k).2.2.1 = some (tyX3 k) := by decide +kernel
abbrev cX3_init : ByteArray := prog_5_method_1_code
def yX3_init : MethodName := ⟨RX3, "<init>", "(I)V"⟩
abbrev cX3_isFull : ByteArray := prog_5_method_2_code
def yX3_isFull : MethodName := ⟨RX3, "isFull", "()Z"⟩
abbrev cX3_append : ByteArray := prog_5_method_3_code
def yX3_append : MethodName := ⟨RX3, "append", "(III)I"⟩
abbrev cX3_subject : ByteArray := prog_5_method_4_code
def yX3_subject : MethodName := ⟨RX3, "subject", "(I)I"⟩
abbrev cX3_property : ByteArray := prog_5_method_5_code
def yX3_property : MethodName := ⟨RX3, "property", "(I)I"⟩
abbrev cX3_object : ByteArray := prog_5_method_6_code
def yX3_object : MethodName := ⟨RX3, "object", "(I)I"⟩
def RX4 : String := "UpdateSteps$Search"
def TX4 : u_T := fun k => match k with
  | 0 => ("UpdateSteps$Search", "valuesAt", "[[I", true)
  | 1 => ("UpdateSteps$Search", "solved", "[I", true)
  | 2 => ("UpdateSteps$Search", "found", "I", false)
  | _ => ("UpdateSteps$Search", "work", "I", false)
def tyX4 : Nat → FieldType := fun k => match k with
  | 0 => .array (.array .int)
  | 1 => .array .int
  | 2 => .int
  | _ => .int
theorem nmX4 : ∀ a, a < 4 → ∀ b, b < 4 → a ≠ b → (TX4 a).2.1 ≠ (TX4 b).2.1 := by decide +kernel
theorem tyX4_ok : ∀ k, k < 4 → parseFieldDescriptor (TX4 k).2.2.1 = some (tyX4 k) := by decide +kernel
abbrev cX4_init : ByteArray := prog_6_method_1_code
def yX4_init : MethodName := ⟨RX4, "<init>", "()V"⟩
abbrev cX4_find : ByteArray := prog_6_method_2_code
def yX4_find : MethodName := ⟨RX4, "find", "(LUpdateSteps$Rows;LUpdateSteps$Graph;)Z"⟩
abbrev cX4_valueIn : ByteArray := prog_6_method_3_code
def yX4_valueIn : MethodName := ⟨RX4, "valueIn", "(II)I"⟩
abbrev cX4_goOn : ByteArray := prog_6_method_4_code
def yX4_goOn : MethodName := ⟨RX4, "goOn", "(LUpdateSteps$Rows;LUpdateSteps$Graph;I)Z"⟩
abbrev cX4_holdAgainst : ByteArray := prog_6_method_5_code
def yX4_holdAgainst : MethodName := ⟨RX4, "holdAgainst", "(LUpdateSteps$Rows;LUpdateSteps$Graph;II)Z"⟩
abbrev cX4_keep : ByteArray := prog_6_method_6_code
def yX4_keep : MethodName := ⟨RX4, "keep", "([I)Z"⟩
abbrev cX4_fits : ByteArray := prog_6_method_7_code
def yX4_fits : MethodName := ⟨RX4, "fits", "(LUpdateSteps$Rows;II)Z"⟩
abbrev cX4_agrees : ByteArray := prog_6_method_8_code
def yX4_agrees : MethodName := ⟨RX4, "agrees", "([III)Z"⟩
def RX5 : String := "UpdateSteps$Step"
def TX5 : u_T := fun k => match k with
  | 0 => ("UpdateSteps$Step", "templates", "LUpdateSteps$Rows;", true)
  | 1 => ("UpdateSteps$Step", "templateAdds", "[Z", true)
  | 2 => ("UpdateSteps$Step", "patternRows", "LUpdateSteps$Rows;", true)
  | 3 => ("UpdateSteps$Step", "kind", "I", false)
  | 4 => ("UpdateSteps$Step", "from", "I", false)
  | 5 => ("UpdateSteps$Step", "to", "I", false)
  | 6 => ("UpdateSteps$Step", "isSilent", "Z", false)
  | _ => ("UpdateSteps$Step", "found", "I", false)
def tyX5 : Nat → FieldType := fun k => match k with
  | 0 => .object "UpdateSteps$Rows"
  | 1 => .array .boolean
  | 2 => .object "UpdateSteps$Rows"
  | 3 => .int
  | 4 => .int
  | 5 => .int
  | 6 => .boolean
  | _ => .int
theorem nmX5 : ∀ a, a < 8 → ∀ b, b < 8 → a ≠ b → (TX5 a).2.1 ≠ (TX5 b).2.1 := by decide +kernel
theorem tyX5_ok : ∀ k, k < 8 → parseFieldDescriptor (TX5 k).2.2.1 = some (tyX5 k) := by decide +kernel
abbrev cX5_init : ByteArray := prog_7_method_1_code
def yX5_init : MethodName := ⟨RX5, "<init>", "()V"⟩
abbrev cX5_begin : ByteArray := prog_7_method_2_code
def yX5_begin : MethodName := ⟨RX5, "begin", "(III)V"⟩
abbrev cX5_addTemplate : ByteArray := prog_7_method_3_code
def yX5_addTemplate : MethodName := ⟨RX5, "addTemplate", "(IIIZ)I"⟩
def RX6 : String := "UpdateSteps$Store"
def TX6 : u_T := fun k => match k with
  | 0 => ("UpdateSteps$Store", "graphs", "[LUpdateSteps$Graph;", true)
  | _ => ("UpdateSteps$Store", "blanks", "I", false)
def tyX6 : Nat → FieldType := fun k => match k with
  | 0 => .array (.object "UpdateSteps$Graph")
  | _ => .int
theorem nmX6 : ∀ a, a < 2 → ∀ b, b < 2 → a ≠ b → (TX6 a).2.1 ≠ (TX6 b).2.1 := by decide +kernel
theorem tyX6_ok : ∀ k, k < 2 → parseFieldDescriptor (TX6 k).2.2.1 = some (tyX6 k) := by decide +kernel
abbrev cX6_init : ByteArray := prog_8_method_1_code
def yX6_init : MethodName := ⟨RX6, "<init>", "()V"⟩
abbrev cX6_factCount : ByteArray := prog_8_method_2_code
def yX6_factCount : MethodName := ⟨RX6, "factCount", "()I"⟩
abbrev cX6_put : ByteArray := prog_8_method_3_code
def yX6_put : MethodName := ⟨RX6, "put", "(LUpdateSteps$Graph;I)Z"⟩
abbrev cX6_drop : ByteArray := prog_8_method_4_code
def yX6_drop : MethodName := ⟨RX6, "drop", "(I)V"⟩
abbrev cX6_makeBlank : ByteArray := prog_8_method_5_code
def yX6_makeBlank : MethodName := ⟨RX6, "makeBlank", "()I"⟩
abbrev cX6_become : ByteArray := prog_8_method_6_code
def yX6_become : MethodName := ⟨RX6, "become", "(LUpdateSteps$Store;)V"⟩
def RX7 : String := "UpdateSteps$Worker"
def TX7 : u_T := fun k => match k with
  | 0 => ("UpdateSteps$Worker", "store", "LUpdateSteps$Store;", true)
  | 1 => ("UpdateSteps$Worker", "files", "[LUpdateSteps$FileRows;", true)
  | 2 => ("UpdateSteps$Worker", "search", "LUpdateSteps$Search;", true)
  | 3 => ("UpdateSteps$Worker", "newBlanks", "[I", true)
  | _ => ("UpdateSteps$Worker", "work", "I", false)
def tyX7 : Nat → FieldType := fun k => match k with
  | 0 => .object "UpdateSteps$Store"
  | 1 => .array (.object "UpdateSteps$FileRows")
  | 2 => .object "UpdateSteps$Search"
  | 3 => .array .int
  | _ => .int
theorem nmX7 : ∀ a, a < 5 → ∀ b, b < 5 → a ≠ b → (TX7 a).2.1 ≠ (TX7 b).2.1 := by decide +kernel
theorem tyX7_ok : ∀ k, k < 5 → parseFieldDescriptor (TX7 k).2.2.1 = some (tyX7 k) := by decide +kernel
abbrev cX7_init : ByteArray := prog_9_method_1_code
def yX7_init : MethodName := ⟨RX7, "<init>", "()V"⟩
abbrev cX7_perform : ByteArray := prog_9_method_2_code
def yX7_perform : MethodName := ⟨RX7, "perform", "(LUpdateSteps$Step;)I"⟩
abbrev cX7_takeAllFacts : ByteArray := prog_9_method_3_code
def yX7_takeAllFacts : MethodName := ⟨RX7, "takeAllFacts", "(LUpdateSteps$Step;)I"⟩
abbrev cX7_makeGraph : ByteArray := prog_9_method_4_code
def yX7_makeGraph : MethodName := ⟨RX7, "makeGraph", "(LUpdateSteps$Step;)I"⟩
abbrev cX7_bringGraph : ByteArray := prog_9_method_5_code
def yX7_bringGraph : MethodName := ⟨RX7, "bringGraph", "(LUpdateSteps$Step;)I"⟩
abbrev cX7_addGraph : ByteArray := prog_9_method_6_code
def yX7_addGraph : MethodName := ⟨RX7, "addGraph", "(LUpdateSteps$Graph;LUpdateSteps$Graph;)I"⟩
abbrev cX7_readFile : ByteArray := prog_9_method_7_code
def yX7_readFile : MethodName := ⟨RX7, "readFile", "(LUpdateSteps$Step;)I"⟩
abbrev cX7_rewrite : ByteArray := prog_9_method_8_code
def yX7_rewrite : MethodName := ⟨RX7, "rewrite", "(LUpdateSteps$Step;)I"⟩
abbrev cX7_takeAwayFor : ByteArray := prog_9_method_9_code
def yX7_takeAwayFor : MethodName := ⟨RX7, "takeAwayFor", "(LUpdateSteps$Step;I)V"⟩
abbrev cX7_addFor : ByteArray := prog_9_method_10_code
def yX7_addFor : MethodName := ⟨RX7, "addFor", "(LUpdateSteps$Step;I)Z"⟩
abbrev cX7_applyRow : ByteArray := prog_9_method_11_code
def yX7_applyRow : MethodName := ⟨RX7, "applyRow", "(LUpdateSteps$Step;II)Z"⟩
abbrev cX7_valueOf : ByteArray := prog_9_method_12_code
def yX7_valueOf : MethodName := ⟨RX7, "valueOf", "(II)I"⟩
abbrev cX7_withBlank : ByteArray := prog_9_method_13_code
def yX7_withBlank : MethodName := ⟨RX7, "withBlank", "(I)I"⟩
def RX8 : String := "UpdateSteps"
def TX8 : u_T := fun k => match k with
  | 0 => ("UpdateSteps", "steps", "[LUpdateSteps$Step;", true)
  | 1 => ("UpdateSteps", "worker", "LUpdateSteps$Worker;", true)
  | 2 => ("UpdateSteps", "store", "LUpdateSteps$Store;", true)
  | 3 => ("UpdateSteps", "before", "LUpdateSteps$Store;", true)
  | 4 => ("UpdateSteps", "changes", "LUpdateSteps$Changes;", true)
  | 5 => ("UpdateSteps", "stepCount", "I", false)
  | 6 => ("UpdateSteps", "failedStep", "I", false)
  | _ => ("UpdateSteps", "latestWork", "I", false)
def tyX8 : Nat → FieldType := fun k => match k with
  | 0 => .array (.object "UpdateSteps$Step")
  | 1 => .object "UpdateSteps$Worker"
  | 2 => .object "UpdateSteps$Store"
  | 3 => .object "UpdateSteps$Store"
  | 4 => .object "UpdateSteps$Changes"
  | 5 => .int
  | 6 => .int
  | _ => .int
theorem nmX8 : ∀ a, a < 8 → ∀ b, b < 8 → a ≠ b → (TX8 a).2.1 ≠ (TX8 b).2.1 := by decide +kernel
theorem tyX8_ok : ∀ k, k < 8 → parseFieldDescriptor (TX8 k).2.2.1 = some (tyX8 k) := by decide +kernel
abbrev cX8_init : ByteArray := prog_1_method_1_code
def yX8_init : MethodName := ⟨RX8, "<init>", "()V"⟩
abbrev cX8_step : ByteArray := prog_1_method_2_code
def yX8_step : MethodName := ⟨RX8, "step", "(III)I"⟩
abbrev cX8_silent : ByteArray := prog_1_method_3_code
def yX8_silent : MethodName := ⟨RX8, "silent", "(IZ)Z"⟩
abbrev cX8_template : ByteArray := prog_1_method_4_code
def yX8_template : MethodName := ⟨RX8, "template", "(IIIIZ)I"⟩
abbrev cX8_pattern : ByteArray := prog_1_method_5_code
def yX8_pattern : MethodName := ⟨RX8, "pattern", "(IIII)I"⟩
abbrev cX8_file : ByteArray := prog_1_method_6_code
def yX8_file : MethodName := ⟨RX8, "file", "(IIII)I"⟩
abbrev cX8_torn : ByteArray := prog_1_method_7_code
def yX8_torn : MethodName := ⟨RX8, "torn", "(IZ)Z"⟩
abbrev cX8_run : ByteArray := prog_1_method_8_code
def yX8_run : MethodName := ⟨RX8, "run", "()I"⟩
abbrev cX8_fails : ByteArray := prog_1_method_9_code
def yX8_fails : MethodName := ⟨RX8, "fails", "()I"⟩
abbrev cX8_clear : ByteArray := prog_1_method_10_code
def yX8_clear : MethodName := ⟨RX8, "clear", "()I"⟩
abbrev cX8_many : ByteArray := prog_1_method_11_code
def yX8_many : MethodName := ⟨RX8, "many", "(I)I"⟩
abbrev cX8_at : ByteArray := prog_1_method_12_code
def yX8_at : MethodName := ⟨RX8, "at", "(III)I"⟩
abbrev cX8_has : ByteArray := prog_1_method_13_code
def yX8_has : MethodName := ⟨RX8, "has", "(IIII)Z"⟩
abbrev cX8_changed : ByteArray := prog_1_method_14_code
def yX8_changed : MethodName := ⟨RX8, "changed", "(II)I"⟩
abbrev cX8_solutions : ByteArray := prog_1_method_15_code
def yX8_solutions : MethodName := ⟨RX8, "solutions", "(I)I"⟩
abbrev cX8_told : ByteArray := prog_1_method_16_code
def yX8_told : MethodName := ⟨RX8, "told", "(I)I"⟩
abbrev cX8_stepNumbered : ByteArray := prog_1_method_17_code
def yX8_stepNumbered : MethodName := ⟨RX8, "stepNumbered", "(I)LUpdateSteps$Step;"⟩
abbrev cX8_fileNumbered : ByteArray := prog_1_method_18_code
def yX8_fileNumbered : MethodName := ⟨RX8, "fileNumbered", "(I)LUpdateSteps$FileRows;"⟩
abbrev cX8_graphNumbered : ByteArray := prog_1_method_19_code
def yX8_graphNumbered : MethodName := ⟨RX8, "graphNumbered", "(I)LUpdateSteps$Graph;"⟩
abbrev cX8_isGraph : ByteArray := prog_1_method_20_code
def yX8_isGraph : MethodName := ⟨RX8, "isGraph", "(I)Z"⟩
abbrev cX8_fromCounts : ByteArray := prog_1_method_21_code
def yX8_fromCounts : MethodName := ⟨RX8, "fromCounts", "(I)Z"⟩
abbrev cX8_fromMayBe : ByteArray := prog_1_method_22_code
def yX8_fromMayBe : MethodName := ⟨RX8, "fromMayBe", "(II)Z"⟩
abbrev cX8_toMayBe : ByteArray := prog_1_method_23_code
def yX8_toMayBe : MethodName := ⟨RX8, "toMayBe", "(II)Z"⟩
abbrev cX8_templateMayBe : ByteArray := prog_1_method_24_code
def yX8_templateMayBe : MethodName := ⟨RX8, "templateMayBe", "(IZ)Z"⟩
abbrev cX8_templateTermMayBe : ByteArray := prog_1_method_25_code
def yX8_templateTermMayBe : MethodName := ⟨RX8, "templateTermMayBe", "(IZI)Z"⟩
abbrev cX8_patternTermMayBe : ByteArray := prog_1_method_26_code
def yX8_patternTermMayBe : MethodName := ⟨RX8, "patternTermMayBe", "(I)Z"⟩
abbrev cX8_isName : ByteArray := prog_1_method_27_code
def yX8_isName : MethodName := ⟨RX8, "isName", "(I)Z"⟩
abbrev cX8_isVariable : ByteArray := prog_1_method_28_code
def yX8_isVariable : MethodName := ⟨RX8, "isVariable", "(I)Z"⟩
abbrev cX8_isNewBlank : ByteArray := prog_1_method_29_code
def yX8_isNewBlank : MethodName := ⟨RX8, "isNewBlank", "(I)Z"⟩
abbrev cX8_isPassedOver : ByteArray := prog_1_method_30_code
def yX8_isPassedOver : MethodName := ⟨RX8, "isPassedOver", "(LUpdateSteps$Step;I)Z"⟩
abbrev cX8_factOf : ByteArray := prog_1_method_31_code
def yX8_factOf : MethodName := ⟨RX8, "factOf", "(III)I"⟩
abbrev cX8_partOf : ByteArray := prog_1_method_32_code
def yX8_partOf : MethodName := ⟨RX8, "partOf", "(II)I"⟩
abbrev cX8_isPart : ByteArray := prog_1_method_33_code
def yX8_isPart : MethodName := ⟨RX8, "isPart", "(I)Z"⟩
def RX9 : String := "UpdateStepsModel"
def TX9 : u_T := fun k => match k with
  | 0 => ("UpdateStepsModel", "fault", "I", false)
  | 1 => ("UpdateStepsModel", "steps", "I", false)
  | 2 => ("UpdateStepsModel", "kinds", "[I", true)
  | 3 => ("UpdateStepsModel", "froms", "[I", true)
  | 4 => ("UpdateStepsModel", "tos", "[I", true)
  | 5 => ("UpdateStepsModel", "silents", "[Z", true)
  | 6 => ("UpdateStepsModel", "templates", "[I", true)
  | 7 => ("UpdateStepsModel", "templateS", "[I", true)
  | 8 => ("UpdateStepsModel", "templateP", "[I", true)
  | 9 => ("UpdateStepsModel", "templateO", "[I", true)
  | 10 => ("UpdateStepsModel", "templateAdds", "[Z", true)
  | 11 => ("UpdateStepsModel", "patterns", "[I", true)
  | 12 => ("UpdateStepsModel", "patternS", "[I", true)
  | 13 => ("UpdateStepsModel", "patternP", "[I", true)
  | 14 => ("UpdateStepsModel", "patternO", "[I", true)
  | 15 => ("UpdateStepsModel", "files", "[I", true)
  | 16 => ("UpdateStepsModel", "fileS", "[I", true)
  | 17 => ("UpdateStepsModel", "fileP", "[I", true)
  | 18 => ("UpdateStepsModel", "fileO", "[I", true)
  | 19 => ("UpdateStepsModel", "isTorn", "[Z", true)
  | 20 => ("UpdateStepsModel", "facts", "I", false)
  | 21 => ("UpdateStepsModel", "graphs", "[I", true)
  | 22 => ("UpdateStepsModel", "subjects", "[I", true)
  | 23 => ("UpdateStepsModel", "properties", "[I", true)
  | 24 => ("UpdateStepsModel", "objects", "[I", true)
  | 25 => ("UpdateStepsModel", "isThere", "[Z", true)
  | 26 => ("UpdateStepsModel", "blanks", "I", false)
  | 27 => ("UpdateStepsModel", "oldFacts", "I", false)
  | 28 => ("UpdateStepsModel", "oldGraphs", "[I", true)
  | 29 => ("UpdateStepsModel", "oldSubjects", "[I", true)
  | 30 => ("UpdateStepsModel", "oldProperties", "[I", true)
  | 31 => ("UpdateStepsModel", "oldObjects", "[I", true)
  | 32 => ("UpdateStepsModel", "wasThere", "[Z", true)
  | 33 => ("UpdateStepsModel", "oldBlanks", "I", false)
  | 34 => ("UpdateStepsModel", "changes", "I", false)
  | 35 => ("UpdateStepsModel", "changeGraph", "[I", true)
  | 36 => ("UpdateStepsModel", "changeS", "[I", true)
  | 37 => ("UpdateStepsModel", "changeP", "[I", true)
  | 38 => ("UpdateStepsModel", "changeO", "[I", true)
  | 39 => ("UpdateStepsModel", "changeCame", "[Z", true)
  | 40 => ("UpdateStepsModel", "solved", "[I", true)
  | 41 => ("UpdateStepsModel", "work", "I", false)
  | 42 => ("UpdateStepsModel", "failed", "I", false)
  | 43 => ("UpdateStepsModel", "ways", "I", false)
  | 44 => ("UpdateStepsModel", "values", "[I", true)
  | 45 => ("UpdateStepsModel", "more", "I", false)
  | 46 => ("UpdateStepsModel", "next", "[I", true)
  | 47 => ("UpdateStepsModel", "rows", "I", false)
  | 48 => ("UpdateStepsModel", "order", "[I", true)
  | _ => ("UpdateStepsModel", "made", "[I", true)
def tyX9 : Nat → FieldType := fun k => match k with
  | 0 => .int
  | 1 => .int
  | 2 => .array .int
  | 3 => .array .int
  | 4 => .array .int
  | 5 => .array .boolean
  | 6 => .array .int
  | 7 => .array .int
  | 8 => .array .int
  | 9 => .array .int
  | 10 => .array .boolean
  | 11 => .array .int
  | 12 => .array .int
  | 13 => .array .int
  | 14 => .array .int
  | 15 => .array .int
  | 16 => .array .int
  | 17 => .array .int
  | 18 => .array .int
  | 19 => .array .boolean
  | 20 => .int
  | 21 => .array .int
  | 22 => .array .int
  | 23 => .array .int
  | 24 => .array .int
  | 25 => .array .boolean
  | 26 => .int
  | 27 => .int
  | 28 => .array .int
  | 29 => .array .int
  | 30 => .array .int
  | 31 => .array .int
  | 32 => .array .boolean
  | 33 => .int
  | 34 => .int
  | 35 => .array .int
  | 36 => .array .int
  | 37 => .array .int
  | 38 => .array .int
  | 39 => .array .boolean
  | 40 => .array .int
  | 41 => .int
  | 42 => .int
  | 43 => .int
  | 44 => .array .int
  | 45 => .int
  | 46 => .array .int
  | 47 => .int
  | 48 => .array .int
  | _ => .array .int
theorem nmX9 : ∀ a, a < 50 → ∀ b, b < 50 → a ≠ b → (TX9 a).2.1 ≠ (TX9 b).2.1 := by decide +kernel
theorem tyX9_ok : ∀ k, k < 50 → parseFieldDescriptor (TX9 k).2.2.1 = some (tyX9 k) := by decide +kernel
abbrev cX9_init : ByteArray := prog_11_method_1_code
def yX9_init : MethodName := ⟨RX9, "<init>", "()V"⟩
abbrev cX9_thrown : ByteArray := prog_11_method_2_code
def yX9_thrown : MethodName := ⟨RX9, "thrown", "()I"⟩
abbrev cX9_isIn : ByteArray := prog_11_method_3_code
def yX9_isIn : MethodName := ⟨RX9, "isIn", "(III)Z"⟩
abbrev cX9_isStep : ByteArray := prog_11_method_4_code
def yX9_isStep : MethodName := ⟨RX9, "isStep", "(I)Z"⟩
abbrev cX9_isTo : ByteArray := prog_11_method_5_code
def yX9_isTo : MethodName := ⟨RX9, "isTo", "(II)Z"⟩
abbrev cX9_step : ByteArray := prog_11_method_6_code
def yX9_step : MethodName := ⟨RX9, "step", "(III)I"⟩
abbrev cX9_silent : ByteArray := prog_11_method_7_code
def yX9_silent : MethodName := ⟨RX9, "silent", "(IZ)Z"⟩
abbrev cX9_isName : ByteArray := prog_11_method_8_code
def yX9_isName : MethodName := ⟨RX9, "isName", "(I)Z"⟩
abbrev cX9_isVariable : ByteArray := prog_11_method_9_code
def yX9_isVariable : MethodName := ⟨RX9, "isVariable", "(I)Z"⟩
abbrev cX9_isNew : ByteArray := prog_11_method_10_code
def yX9_isNew : MethodName := ⟨RX9, "isNew", "(I)Z"⟩
abbrev cX9_mayStand : ByteArray := prog_11_method_11_code
def yX9_mayStand : MethodName := ⟨RX9, "mayStand", "(IIZ)Z"⟩
abbrev cX9_template : ByteArray := prog_11_method_12_code
def yX9_template : MethodName := ⟨RX9, "template", "(IIIIZ)I"⟩
abbrev cX9_pattern : ByteArray := prog_11_method_13_code
def yX9_pattern : MethodName := ⟨RX9, "pattern", "(IIII)I"⟩
abbrev cX9_file : ByteArray := prog_11_method_14_code
def yX9_file : MethodName := ⟨RX9, "file", "(IIII)I"⟩
abbrev cX9_torn : ByteArray := prog_11_method_15_code
def yX9_torn : MethodName := ⟨RX9, "torn", "(IZ)Z"⟩
abbrev cX9_find : ByteArray := prog_11_method_16_code
def yX9_find : MethodName := ⟨RX9, "find", "(IIII)I"⟩
abbrev cX9_come : ByteArray := prog_11_method_17_code
def yX9_come : MethodName := ⟨RX9, "come", "(IIII)Z"⟩
abbrev cX9_leave : ByteArray := prog_11_method_18_code
def yX9_leave : MethodName := ⟨RX9, "leave", "(I)V"⟩
abbrev cX9_take : ByteArray := prog_11_method_19_code
def yX9_take : MethodName := ⟨RX9, "take", "(IIII)V"⟩
abbrev cX9_empty : ByteArray := prog_11_method_20_code
def yX9_empty : MethodName := ⟨RX9, "empty", "(I)V"⟩
abbrev cX9_dropOne : ByteArray := prog_11_method_21_code
def yX9_dropOne : MethodName := ⟨RX9, "dropOne", "(I)V"⟩
abbrev cX9_isBefore : ByteArray := prog_11_method_22_code
def yX9_isBefore : MethodName := ⟨RX9, "isBefore", "(II)Z"⟩
abbrev cX9_lineUp : ByteArray := prog_11_method_23_code
def yX9_lineUp : MethodName := ⟨RX9, "lineUp", "(I)V"⟩
abbrev cX9_valueIn : ByteArray := prog_11_method_24_code
def yX9_valueIn : MethodName := ⟨RX9, "valueIn", "([III)I"⟩
abbrev cX9_fits : ByteArray := prog_11_method_25_code
def yX9_fits : MethodName := ⟨RX9, "fits", "(II)Z"⟩
abbrev cX9_solve : ByteArray := prog_11_method_26_code
def yX9_solve : MethodName := ⟨RX9, "solve", "(I)I"⟩
abbrev cX9_isLeftOut : ByteArray := prog_11_method_27_code
def yX9_isLeftOut : MethodName := ⟨RX9, "isLeftOut", "(II)Z"⟩
abbrev cX9_comes : ByteArray := prog_11_method_28_code
def yX9_comes : MethodName := ⟨RX9, "comes", "(II)I"⟩
abbrev cX9_add : ByteArray := prog_11_method_29_code
def yX9_add : MethodName := ⟨RX9, "add", "(II)Z"⟩
abbrev cX9_takeAway : ByteArray := prog_11_method_30_code
def yX9_takeAway : MethodName := ⟨RX9, "takeAway", "(II)V"⟩
abbrev cX9_change : ByteArray := prog_11_method_31_code
def yX9_change : MethodName := ⟨RX9, "change", "(I)I"⟩
abbrev cX9_wipe : ByteArray := prog_11_method_32_code
def yX9_wipe : MethodName := ⟨RX9, "wipe", "(IZ)I"⟩
abbrev cX9_copy : ByteArray := prog_11_method_33_code
def yX9_copy : MethodName := ⟨RX9, "copy", "(I)I"⟩
abbrev cX9_readFile : ByteArray := prog_11_method_34_code
def yX9_readFile : MethodName := ⟨RX9, "readFile", "(I)I"⟩
abbrev cX9_act : ByteArray := prog_11_method_35_code
def yX9_act : MethodName := ⟨RX9, "act", "(I)I"⟩
abbrev cX9_keep : ByteArray := prog_11_method_36_code
def yX9_keep : MethodName := ⟨RX9, "keep", "()V"⟩
abbrev cX9_goBack : ByteArray := prog_11_method_37_code
def yX9_goBack : MethodName := ⟨RX9, "goBack", "()V"⟩
abbrev cX9_note : ByteArray := prog_11_method_38_code
def yX9_note : MethodName := ⟨RX9, "note", "(IIIIZ)V"⟩
abbrev cX9_isAfter : ByteArray := prog_11_method_39_code
def yX9_isAfter : MethodName := ⟨RX9, "isAfter", "(IIIII)Z"⟩
abbrev cX9_wasIn : ByteArray := prog_11_method_40_code
def yX9_wasIn : MethodName := ⟨RX9, "wasIn", "(IIII)Z"⟩
abbrev cX9_noteAll : ByteArray := prog_11_method_41_code
def yX9_noteAll : MethodName := ⟨RX9, "noteAll", "()V"⟩
abbrev cX9_run : ByteArray := prog_11_method_42_code
def yX9_run : MethodName := ⟨RX9, "run", "()I"⟩
abbrev cX9_fails : ByteArray := prog_11_method_43_code
def yX9_fails : MethodName := ⟨RX9, "fails", "()I"⟩
abbrev cX9_clear : ByteArray := prog_11_method_44_code
def yX9_clear : MethodName := ⟨RX9, "clear", "()I"⟩
abbrev cX9_many : ByteArray := prog_11_method_45_code
def yX9_many : MethodName := ⟨RX9, "many", "(I)I"⟩
abbrev cX9_at : ByteArray := prog_11_method_46_code
def yX9_at : MethodName := ⟨RX9, "at", "(III)I"⟩
abbrev cX9_has : ByteArray := prog_11_method_47_code
def yX9_has : MethodName := ⟨RX9, "has", "(IIII)Z"⟩
abbrev cX9_changed : ByteArray := prog_11_method_48_code
def yX9_changed : MethodName := ⟨RX9, "changed", "(II)I"⟩
abbrev cX9_solutions : ByteArray := prog_11_method_49_code
def yX9_solutions : MethodName := ⟨RX9, "solutions", "(I)I"⟩
abbrev cX9_told : ByteArray := prog_11_method_50_code
def yX9_told : MethodName := ⟨RX9, "told", "(I)I"⟩
def RJ7 : String := "java/util/Arrays"
abbrev cJ7_fill_53178 : ByteArray := prog_20_method_103_code
def yJ7_fill_53178 : MethodName := ⟨RJ7, "fill", "([II)V"⟩
def RL : String := "UpdateStepsLaw"
abbrev cL_step : ByteArray := method_3_code
def yL_step : MethodName := ⟨RL, "step", "(LUpdateSteps;III[J)I"⟩
abbrev cL_silent : ByteArray := method_4_code
def yL_silent : MethodName := ⟨RL, "silent", "(LUpdateSteps;IZ[J)I"⟩
abbrev cL_template : ByteArray := method_5_code
def yL_template : MethodName := ⟨RL, "template", "(LUpdateSteps;IIIIZ[J)I"⟩
abbrev cL_pattern : ByteArray := method_6_code
def yL_pattern : MethodName := ⟨RL, "pattern", "(LUpdateSteps;IIII[J)I"⟩
abbrev cL_file : ByteArray := method_7_code
def yL_file : MethodName := ⟨RL, "file", "(LUpdateSteps;IIII[J)I"⟩
abbrev cL_torn : ByteArray := method_8_code
def yL_torn : MethodName := ⟨RL, "torn", "(LUpdateSteps;IZ[J)I"⟩
abbrev cL_many : ByteArray := method_9_code
def yL_many : MethodName := ⟨RL, "many", "(LUpdateSteps;I[J)I"⟩
abbrev cL_at : ByteArray := method_10_code
def yL_at : MethodName := ⟨RL, "at", "(LUpdateSteps;III[J)I"⟩
abbrev cL_has : ByteArray := method_11_code
def yL_has : MethodName := ⟨RL, "has", "(LUpdateSteps;IIII[J)I"⟩
abbrev cL_changed : ByteArray := method_12_code
def yL_changed : MethodName := ⟨RL, "changed", "(LUpdateSteps;II[J)I"⟩
abbrev cL_solutions : ByteArray := method_13_code
def yL_solutions : MethodName := ⟨RL, "solutions", "(LUpdateSteps;I[J)I"⟩
abbrev cL_told : ByteArray := method_14_code
def yL_told : MethodName := ⟨RL, "told", "(LUpdateSteps;I[J)I"⟩
abbrev cL_law : ByteArray := code
abbrev vwCl : List vw_C := [(RX0, TX0, 4), (RX1, TX1, 2), (RX2, TX2, 3), (RX3, TX3, 3), (RX4, TX4, 4), (RX5, TX5, 8), (RX6, TX6, 2), (RX7, TX7, 5), (RX8, TX8, 8), (RX9, TX9, 50)]
end
end
section
section
theorem dX0_init_0 : decode cX0_init 0 = .ok (.aload_n 0, 1) := by decide +kernel
theorem dX0_init_1 : decode cX0_init 1 = .ok (.invokespecial 3, 3) := by decide +kernel
theorem dX0_init_4 : decode cX0_init 4 = .ok (.aload_n 0, 1) := by decide +kernel
theorem dX0_init_5 : decode cX0_init 5 = .ok (.sipush 240, 3) := by decide +kernel
theorem dX0_init_8 : decode cX0_init 8 = .ok (.newarray .int, 2) := by decide +kernel
theorem dX0_init_10 : decode cX0_init 10 = .ok (.putfield 9, 3) := by decide +kernel
theorem dX0_init_13 : decode cX0_init 13 = .ok (.aload_n 0, 1) := by decide +kernel
theorem dX0_init_14 : decode cX0_init 14 = .ok (.sipush 240, 3) := by decide +kernel
theorem dX0_init_17 : decode cX0_init 17 = .ok (.newarray .int, 2) := by decide +kernel
theorem dX0_init_19 : decode cX0_init 19 = .ok (.putfield 15, 3) := by decide +kernel
theorem dX0_init_22 : decode cX0_init 22 = .ok (.aload_n 0, 1) := by decide +kernel
theorem dX0_init_23 : decode cX0_init 23 = .ok (.sipush 240, 3) := by decide +kernel
theorem dX0_init_26 : decode cX0_init 26 = .ok (.newarray .int, 2) := by decide +kernel
theorem dX0_init_28 : decode cX0_init 28 = .ok (.putfield 18, 3) := by decide +kernel
theorem dX0_init_31 : decode cX0_init 31 = .ok (.aload_n 0, 1) := by decide +kernel
theorem dX0_init_32 : decode cX0_init 32 = .ok (.iconst 0, 1) := by decide +kernel
theorem dX0_init_33 : decode cX0_init 33 = .ok (.putfield 21, 3) := by decide +kernel
theorem dX0_init_36 : decode cX0_init 36 = .ok (.return_, 1) := by decide +kernel
theorem dX0_compare_0 : decode cX0_compare 0 = .ok (.aload_n 0, 1) := by decide +kernel
theorem dX0_compare_1 : decode cX0_compare 1 = .ok (.iconst 0, 1) := by decide +kernel
theorem dX0_compare_2 : decode cX0_compare 2 = .ok (.putfield 21, 3) := by decide +kernel
theorem dX0_compare_5 : decode cX0_compare 5 = .ok (.iconst 0, 1) := by decide +kernel
theorem dX0_compare_6 : decode cX0_compare 6 = .ok (.istore_n 3, 1) := by decide +kernel
theorem dX0_compare_7 : decode cX0_compare 7 = .ok (.iload_n 3, 1) := by decide +kernel
theorem dX0_compare_8 : decode cX0_compare 8 = .ok (.bipush 7, 2) := by decide +kernel
theorem dX0_compare_10 : decode cX0_compare 10 = .ok (.if_icmp .ge 26, 3) := by decide +kernel
theorem dX0_compare_13 : decode cX0_compare 13 = .ok (.aload_n 0, 1) := by decide +kernel
theorem dX0_compare_14 : decode cX0_compare 14 = .ok (.iload_n 3, 1) := by decide +kernel
theorem dX0_compare_15 : decode cX0_compare 15 = .ok (.aload_n 1, 1) := by decide +kernel
theorem dX0_compare_16 : decode cX0_compare 16 = .ok (.getfield 25, 3) := by decide +kernel
theorem dX0_compare_19 : decode cX0_compare 19 = .ok (.iload_n 3, 1) := by decide +kernel
theorem dX0_compare_20 : decode cX0_compare 20 = .ok (.aaload, 1) := by decide +kernel
theorem dX0_compare_21 : decode cX0_compare 21 = .ok (.aload_n 2, 1) := by decide +kernel
theorem dX0_compare_22 : decode cX0_compare 22 = .ok (.getfield 25, 3) := by decide +kernel
theorem dX0_compare_25 : decode cX0_compare 25 = .ok (.iload_n 3, 1) := by decide +kernel
theorem dX0_compare_26 : decode cX0_compare 26 = .ok (.aaload, 1) := by decide +kernel
theorem dX0_compare_27 : decode cX0_compare 27 = .ok (.invokevirtual 31, 3) := by decide +kernel
theorem dX0_compare_30 : decode cX0_compare 30 = .ok (.iinc 3 1, 3) := by decide +kernel
theorem dX0_compare_33 : decode cX0_compare 33 = .ok (.goto (-26), 3) := by decide +kernel
theorem dX0_compare_36 : decode cX0_compare 36 = .ok (.return_, 1) := by decide +kernel
theorem dX0_compareGraphs_0 : decode cX0_compareGraphs 0 = .ok (.iconst 0, 1) := by decide +kernel
theorem dX0_compareGraphs_1 : decode cX0_compareGraphs 1 = .ok (.istore 4, 2) := by decide +kernel
theorem dX0_compareGraphs_3 : decode cX0_compareGraphs 3 = .ok (.iconst 0, 1) := by decide +kernel
theorem dX0_compareGraphs_4 : decode cX0_compareGraphs 4 = .ok (.istore 5, 2) := by decide +kernel
theorem dX0_compareGraphs_6 : decode cX0_compareGraphs 6 = .ok (.iload 4, 2) := by decide +kernel
theorem dX0_compareGraphs_8 : decode cX0_compareGraphs 8 = .ok (.aload_n 2, 1) := by decide +kernel
theorem dX0_compareGraphs_9 : decode cX0_compareGraphs 9 = .ok (.getfield 35, 3) := by decide +kernel
theorem dX0_compareGraphs_12 : decode cX0_compareGraphs 12 = .ok (.if_icmp .lt 12, 3) := by decide +kernel
theorem dX0_compareGraphs_15 : decode cX0_compareGraphs 15 = .ok (.iload 5, 2) := by decide +kernel
theorem dX0_compareGraphs_17 : decode cX0_compareGraphs 17 = .ok (.aload_n 3, 1) := by decide +kernel
theorem dX0_compareGraphs_18 : decode cX0_compareGraphs 18 = .ok (.getfield 35, 3) := by decide +kernel
theorem dX0_compareGraphs_21 : decode cX0_compareGraphs 21 = .ok (.if_icmp .ge 111, 3) := by decide +kernel
theorem dX0_compareGraphs_24 : decode cX0_compareGraphs 24 = .ok (.iload 5, 2) := by decide +kernel
theorem dX0_compareGraphs_26 : decode cX0_compareGraphs 26 = .ok (.aload_n 3, 1) := by decide +kernel
theorem dX0_compareGraphs_27 : decode cX0_compareGraphs 27 = .ok (.getfield 35, 3) := by decide +kernel
theorem dX0_compareGraphs_30 : decode cX0_compareGraphs 30 = .ok (.if_icmp .ge 29, 3) := by decide +kernel
theorem dX0_compareGraphs_33 : decode cX0_compareGraphs 33 = .ok (.iload 4, 2) := by decide +kernel
theorem dX0_compareGraphs_35 : decode cX0_compareGraphs 35 = .ok (.aload_n 2, 1) := by decide +kernel
theorem dX0_compareGraphs_36 : decode cX0_compareGraphs 36 = .ok (.getfield 35, 3) := by decide +kernel
theorem dX0_compareGraphs_39 : decode cX0_compareGraphs 39 = .ok (.if_icmp .ge 39, 3) := by decide +kernel
theorem dX0_compareGraphs_42 : decode cX0_compareGraphs 42 = .ok (.aload_n 2, 1) := by decide +kernel
theorem dX0_compareGraphs_43 : decode cX0_compareGraphs 43 = .ok (.getfield 40, 3) := by decide +kernel
theorem dX0_compareGraphs_46 : decode cX0_compareGraphs 46 = .ok (.iload 4, 2) := by decide +kernel
theorem dX0_compareGraphs_48 : decode cX0_compareGraphs 48 = .ok (.iaload, 1) := by decide +kernel
theorem dX0_compareGraphs_49 : decode cX0_compareGraphs 49 = .ok (.aload_n 3, 1) := by decide +kernel
theorem dX0_compareGraphs_50 : decode cX0_compareGraphs 50 = .ok (.getfield 40, 3) := by decide +kernel
theorem dX0_compareGraphs_53 : decode cX0_compareGraphs 53 = .ok (.iload 5, 2) := by decide +kernel
theorem dX0_compareGraphs_55 : decode cX0_compareGraphs 55 = .ok (.iaload, 1) := by decide +kernel
theorem dX0_compareGraphs_56 : decode cX0_compareGraphs 56 = .ok (.if_icmp .ge 22, 3) := by decide +kernel
theorem dX0_compareGraphs_59 : decode cX0_compareGraphs 59 = .ok (.aload_n 0, 1) := by decide +kernel
theorem dX0_compareGraphs_60 : decode cX0_compareGraphs 60 = .ok (.iload_n 1, 1) := by decide +kernel
theorem dX0_compareGraphs_61 : decode cX0_compareGraphs 61 = .ok (.aload_n 2, 1) := by decide +kernel
theorem dX0_compareGraphs_62 : decode cX0_compareGraphs 62 = .ok (.getfield 40, 3) := by decide +kernel
theorem dX0_compareGraphs_65 : decode cX0_compareGraphs 65 = .ok (.iload 4, 2) := by decide +kernel
theorem dX0_compareGraphs_67 : decode cX0_compareGraphs 67 = .ok (.iaload, 1) := by decide +kernel
theorem dX0_compareGraphs_68 : decode cX0_compareGraphs 68 = .ok (.iconst 0, 1) := by decide +kernel
theorem dX0_compareGraphs_69 : decode cX0_compareGraphs 69 = .ok (.invokevirtual 43, 3) := by decide +kernel
theorem dX0_compareGraphs_72 : decode cX0_compareGraphs 72 = .ok (.iinc 4 1, 3) := by decide +kernel
theorem dX0_compareGraphs_75 : decode cX0_compareGraphs 75 = .ok (.goto (-69), 3) := by decide +kernel
theorem dX0_compareGraphs_78 : decode cX0_compareGraphs 78 = .ok (.iload 4, 2) := by decide +kernel
theorem dX0_compareGraphs_80 : decode cX0_compareGraphs 80 = .ok (.aload_n 2, 1) := by decide +kernel
theorem dX0_compareGraphs_81 : decode cX0_compareGraphs 81 = .ok (.getfield 35, 3) := by decide +kernel
theorem dX0_compareGraphs_84 : decode cX0_compareGraphs 84 = .ok (.if_icmp .ge 20, 3) := by decide +kernel
theorem dX0_compareGraphs_87 : decode cX0_compareGraphs 87 = .ok (.aload_n 3, 1) := by decide +kernel
theorem dX0_compareGraphs_88 : decode cX0_compareGraphs 88 = .ok (.getfield 40, 3) := by decide +kernel
theorem dX0_compareGraphs_91 : decode cX0_compareGraphs 91 = .ok (.iload 5, 2) := by decide +kernel
theorem dX0_compareGraphs_93 : decode cX0_compareGraphs 93 = .ok (.iaload, 1) := by decide +kernel
theorem dX0_compareGraphs_94 : decode cX0_compareGraphs 94 = .ok (.aload_n 2, 1) := by decide +kernel
theorem dX0_compareGraphs_95 : decode cX0_compareGraphs 95 = .ok (.getfield 40, 3) := by decide +kernel
theorem dX0_compareGraphs_98 : decode cX0_compareGraphs 98 = .ok (.iload 4, 2) := by decide +kernel
theorem dX0_compareGraphs_100 : decode cX0_compareGraphs 100 = .ok (.iaload, 1) := by decide +kernel
theorem dX0_compareGraphs_101 : decode cX0_compareGraphs 101 = .ok (.if_icmp .ge 22, 3) := by decide +kernel
theorem dX0_compareGraphs_104 : decode cX0_compareGraphs 104 = .ok (.aload_n 0, 1) := by decide +kernel
theorem dX0_compareGraphs_105 : decode cX0_compareGraphs 105 = .ok (.iload_n 1, 1) := by decide +kernel
theorem dX0_compareGraphs_106 : decode cX0_compareGraphs 106 = .ok (.aload_n 3, 1) := by decide +kernel
theorem dX0_compareGraphs_107 : decode cX0_compareGraphs 107 = .ok (.getfield 40, 3) := by decide +kernel
theorem dX0_compareGraphs_110 : decode cX0_compareGraphs 110 = .ok (.iload 5, 2) := by decide +kernel
theorem dX0_compareGraphs_112 : decode cX0_compareGraphs 112 = .ok (.iaload, 1) := by decide +kernel
theorem dX0_compareGraphs_113 : decode cX0_compareGraphs 113 = .ok (.iconst 1, 1) := by decide +kernel
theorem dX0_compareGraphs_114 : decode cX0_compareGraphs 114 = .ok (.invokevirtual 43, 3) := by decide +kernel
theorem dX0_compareGraphs_117 : decode cX0_compareGraphs 117 = .ok (.iinc 5 1, 3) := by decide +kernel
theorem dX0_compareGraphs_120 : decode cX0_compareGraphs 120 = .ok (.goto (-114), 3) := by decide +kernel
theorem dX0_compareGraphs_123 : decode cX0_compareGraphs 123 = .ok (.iinc 4 1, 3) := by decide +kernel
theorem dX0_compareGraphs_126 : decode cX0_compareGraphs 126 = .ok (.iinc 5 1, 3) := by decide +kernel
theorem dX0_compareGraphs_129 : decode cX0_compareGraphs 129 = .ok (.goto (-123), 3) := by decide +kernel
theorem dX0_compareGraphs_132 : decode cX0_compareGraphs 132 = .ok (.return_, 1) := by decide +kernel
theorem dX0_note_0 : decode cX0_note 0 = .ok (.aload_n 0, 1) := by decide +kernel
theorem dX0_note_1 : decode cX0_note 1 = .ok (.getfield 21, 3) := by decide +kernel
theorem dX0_note_4 : decode cX0_note 4 = .ok (.sipush 240, 3) := by decide +kernel
theorem dX0_note_7 : decode cX0_note 7 = .ok (.if_icmp .ge 43, 3) := by decide +kernel
theorem dX0_note_10 : decode cX0_note 10 = .ok (.aload_n 0, 1) := by decide +kernel
theorem dX0_note_11 : decode cX0_note 11 = .ok (.getfield 9, 3) := by decide +kernel
theorem dX0_note_14 : decode cX0_note 14 = .ok (.aload_n 0, 1) := by decide +kernel
theorem dX0_note_15 : decode cX0_note 15 = .ok (.getfield 21, 3) := by decide +kernel
theorem dX0_note_18 : decode cX0_note 18 = .ok (.iload_n 1, 1) := by decide +kernel
theorem dX0_note_19 : decode cX0_note 19 = .ok (.iastore, 1) := by decide +kernel
theorem dX0_note_20 : decode cX0_note 20 = .ok (.aload_n 0, 1) := by decide +kernel
theorem dX0_note_21 : decode cX0_note 21 = .ok (.getfield 15, 3) := by decide +kernel
theorem dX0_note_24 : decode cX0_note 24 = .ok (.aload_n 0, 1) := by decide +kernel
theorem dX0_note_25 : decode cX0_note 25 = .ok (.getfield 21, 3) := by decide +kernel
theorem dX0_note_28 : decode cX0_note 28 = .ok (.iload_n 2, 1) := by decide +kernel
theorem dX0_note_29 : decode cX0_note 29 = .ok (.iastore, 1) := by decide +kernel
theorem dX0_note_30 : decode cX0_note 30 = .ok (.aload_n 0, 1) := by decide +kernel
theorem dX0_note_31 : decode cX0_note 31 = .ok (.getfield 18, 3) := by decide +kernel
theorem dX0_note_34 : decode cX0_note 34 = .ok (.aload_n 0, 1) := by decide +kernel
theorem dX0_note_35 : decode cX0_note 35 = .ok (.getfield 21, 3) := by decide +kernel
theorem dX0_note_38 : decode cX0_note 38 = .ok (.iload_n 3, 1) := by decide +kernel
theorem dX0_note_39 : decode cX0_note 39 = .ok (.iastore, 1) := by decide +kernel
theorem dX0_note_40 : decode cX0_note 40 = .ok (.aload_n 0, 1) := by decide +kernel
theorem dX0_note_41 : decode cX0_note 41 = .ok (.dup, 1) := by decide +kernel
theorem dX0_note_42 : decode cX0_note 42 = .ok (.getfield 21, 3) := by decide +kernel
theorem dX0_note_45 : decode cX0_note 45 = .ok (.iconst 1, 1) := by decide +kernel
theorem dX0_note_46 : decode cX0_note 46 = .ok (.iadd, 1) := by decide +kernel
theorem dX0_note_47 : decode cX0_note 47 = .ok (.putfield 21, 3) := by decide +kernel
theorem dX0_note_50 : decode cX0_note 50 = .ok (.return_, 1) := by decide +kernel
theorem dX1_init_0 : decode cX1_init 0 = .ok (.aload_n 0, 1) := by decide +kernel
theorem dX1_init_1 : decode cX1_init 1 = .ok (.invokespecial 3, 3) := by decide +kernel
theorem dX1_init_4 : decode cX1_init 4 = .ok (.aload_n 0, 1) := by decide +kernel
theorem dX1_init_5 : decode cX1_init 5 = .ok (.new 9, 3) := by decide +kernel
theorem dX1_init_8 : decode cX1_init 8 = .ok (.dup, 1) := by decide +kernel
theorem dX1_init_9 : decode cX1_init 9 = .ok (.bipush 10, 2) := by decide +kernel
theorem dX1_init_11 : decode cX1_init 11 = .ok (.invokespecial 11, 3) := by decide +kernel
theorem dX1_init_14 : decode cX1_init 14 = .ok (.putfield 14, 3) := by decide +kernel
theorem dX1_init_17 : decode cX1_init 17 = .ok (.aload_n 0, 1) := by decide +kernel
theorem dX1_init_18 : decode cX1_init 18 = .ok (.iconst 0, 1) := by decide +kernel
theorem dX1_init_19 : decode cX1_init 19 = .ok (.putfield 20, 3) := by decide +kernel
theorem dX1_init_22 : decode cX1_init 22 = .ok (.return_, 1) := by decide +kernel
theorem dX2_init_0 : decode cX2_init 0 = .ok (.aload_n 0, 1) := by decide +kernel
theorem dX2_init_1 : decode cX2_init 1 = .ok (.invokespecial 3, 3) := by decide +kernel
theorem dX2_init_4 : decode cX2_init 4 = .ok (.aload_n 0, 1) := by decide +kernel
theorem dX2_init_5 : decode cX2_init 5 = .ok (.bipush 120, 2) := by decide +kernel
theorem dX2_init_7 : decode cX2_init 7 = .ok (.newarray .int, 2) := by decide +kernel
theorem dX2_init_9 : decode cX2_init 9 = .ok (.putfield 9, 3) := by decide +kernel
theorem dX2_init_12 : decode cX2_init 12 = .ok (.aload_n 0, 1) := by decide +kernel
theorem dX2_init_13 : decode cX2_init 13 = .ok (.iconst 0, 1) := by decide +kernel
theorem dX2_init_14 : decode cX2_init 14 = .ok (.putfield 15, 3) := by decide +kernel
theorem dX2_init_17 : decode cX2_init 17 = .ok (.aload_n 0, 1) := by decide +kernel
theorem dX2_init_18 : decode cX2_init 18 = .ok (.iconst 0, 1) := by decide +kernel
theorem dX2_init_19 : decode cX2_init 19 = .ok (.putfield 19, 3) := by decide +kernel
theorem dX2_init_22 : decode cX2_init 22 = .ok (.return_, 1) := by decide +kernel
theorem dX2_placeOf_0 : decode cX2_placeOf 0 = .ok (.iconst 0, 1) := by decide +kernel
theorem dX2_placeOf_1 : decode cX2_placeOf 1 = .ok (.istore_n 2, 1) := by decide +kernel
theorem dX2_placeOf_2 : decode cX2_placeOf 2 = .ok (.aload_n 0, 1) := by decide +kernel
theorem dX2_placeOf_3 : decode cX2_placeOf 3 = .ok (.getfield 15, 3) := by decide +kernel
theorem dX2_placeOf_6 : decode cX2_placeOf 6 = .ok (.istore_n 3, 1) := by decide +kernel
theorem dX2_placeOf_7 : decode cX2_placeOf 7 = .ok (.iload_n 2, 1) := by decide +kernel
theorem dX2_placeOf_8 : decode cX2_placeOf 8 = .ok (.iload_n 3, 1) := by decide +kernel
theorem dX2_placeOf_9 : decode cX2_placeOf 9 = .ok (.if_icmp .ge 35, 3) := by decide +kernel
theorem dX2_placeOf_12 : decode cX2_placeOf 12 = .ok (.iload_n 2, 1) := by decide +kernel
theorem dX2_placeOf_13 : decode cX2_placeOf 13 = .ok (.iload_n 3, 1) := by decide +kernel
theorem dX2_placeOf_14 : decode cX2_placeOf 14 = .ok (.iadd, 1) := by decide +kernel
theorem dX2_placeOf_15 : decode cX2_placeOf 15 = .ok (.iconst 1, 1) := by decide +kernel
theorem dX2_placeOf_16 : decode cX2_placeOf 16 = .ok (.iushr, 1) := by decide +kernel
theorem dX2_placeOf_17 : decode cX2_placeOf 17 = .ok (.istore 4, 2) := by decide +kernel
theorem dX2_placeOf_19 : decode cX2_placeOf 19 = .ok (.aload_n 0, 1) := by decide +kernel
theorem dX2_placeOf_20 : decode cX2_placeOf 20 = .ok (.getfield 9, 3) := by decide +kernel
theorem dX2_placeOf_23 : decode cX2_placeOf 23 = .ok (.iload 4, 2) := by decide +kernel
theorem dX2_placeOf_25 : decode cX2_placeOf 25 = .ok (.iaload, 1) := by decide +kernel
theorem dX2_placeOf_26 : decode cX2_placeOf 26 = .ok (.iload_n 1, 1) := by decide +kernel
theorem dX2_placeOf_27 : decode cX2_placeOf 27 = .ok (.if_icmp .ge 11, 3) := by decide +kernel
theorem dX2_placeOf_30 : decode cX2_placeOf 30 = .ok (.iload 4, 2) := by decide +kernel
theorem dX2_placeOf_32 : decode cX2_placeOf 32 = .ok (.iconst 1, 1) := by decide +kernel
theorem dX2_placeOf_33 : decode cX2_placeOf 33 = .ok (.iadd, 1) := by decide +kernel
theorem dX2_placeOf_34 : decode cX2_placeOf 34 = .ok (.istore_n 2, 1) := by decide +kernel
theorem dX2_placeOf_35 : decode cX2_placeOf 35 = .ok (.goto 6, 3) := by decide +kernel
theorem dX2_placeOf_38 : decode cX2_placeOf 38 = .ok (.iload 4, 2) := by decide +kernel
theorem dX2_placeOf_40 : decode cX2_placeOf 40 = .ok (.istore_n 3, 1) := by decide +kernel
theorem dX2_placeOf_41 : decode cX2_placeOf 41 = .ok (.goto (-34), 3) := by decide +kernel
theorem dX2_placeOf_44 : decode cX2_placeOf 44 = .ok (.iload_n 2, 1) := by decide +kernel
theorem dX2_placeOf_45 : decode cX2_placeOf 45 = .ok (.ireturn, 1) := by decide +kernel
theorem dX2_holds_0 : decode cX2_holds 0 = .ok (.aload_n 0, 1) := by decide +kernel
theorem dX2_holds_1 : decode cX2_holds 1 = .ok (.iload_n 1, 1) := by decide +kernel
theorem dX2_holds_2 : decode cX2_holds 2 = .ok (.invokevirtual 23, 3) := by decide +kernel
theorem dX2_holds_5 : decode cX2_holds 5 = .ok (.istore_n 2, 1) := by decide +kernel
theorem dX2_holds_6 : decode cX2_holds 6 = .ok (.iload_n 2, 1) := by decide +kernel
theorem dX2_holds_7 : decode cX2_holds 7 = .ok (.aload_n 0, 1) := by decide +kernel
theorem dX2_holds_8 : decode cX2_holds 8 = .ok (.getfield 15, 3) := by decide +kernel
theorem dX2_holds_11 : decode cX2_holds 11 = .ok (.if_icmp .ge 17, 3) := by decide +kernel
theorem dX2_holds_14 : decode cX2_holds 14 = .ok (.aload_n 0, 1) := by decide +kernel
theorem dX2_holds_15 : decode cX2_holds 15 = .ok (.getfield 9, 3) := by decide +kernel
theorem dX2_holds_18 : decode cX2_holds 18 = .ok (.iload_n 2, 1) := by decide +kernel
theorem dX2_holds_19 : decode cX2_holds 19 = .ok (.iaload, 1) := by decide +kernel
theorem dX2_holds_20 : decode cX2_holds 20 = .ok (.iload_n 1, 1) := by decide +kernel
theorem dX2_holds_21 : decode cX2_holds 21 = .ok (.if_icmp .ne 7, 3) := by decide +kernel
theorem dX2_holds_24 : decode cX2_holds 24 = .ok (.iconst 1, 1) := by decide +kernel
theorem dX2_holds_25 : decode cX2_holds 25 = .ok (.goto 4, 3) := by decide +kernel
theorem dX2_holds_28 : decode cX2_holds 28 = .ok (.iconst 0, 1) := by decide +kernel
theorem dX2_holds_29 : decode cX2_holds 29 = .ok (.ireturn, 1) := by decide +kernel
theorem dX2_insert_0 : decode cX2_insert 0 = .ok (.aload_n 0, 1) := by decide +kernel
theorem dX2_insert_1 : decode cX2_insert 1 = .ok (.iload_n 1, 1) := by decide +kernel
theorem dX2_insert_2 : decode cX2_insert 2 = .ok (.invokevirtual 23, 3) := by decide +kernel
theorem dX2_insert_5 : decode cX2_insert 5 = .ok (.istore_n 2, 1) := by decide +kernel
theorem dX2_insert_6 : decode cX2_insert 6 = .ok (.aload_n 0, 1) := by decide +kernel
theorem dX2_insert_7 : decode cX2_insert 7 = .ok (.getfield 15, 3) := by decide +kernel
theorem dX2_insert_10 : decode cX2_insert 10 = .ok (.bipush 120, 2) := by decide +kernel
theorem dX2_insert_12 : decode cX2_insert 12 = .ok (.if_icmp .ge 41, 3) := by decide +kernel
theorem dX2_insert_15 : decode cX2_insert 15 = .ok (.aload_n 0, 1) := by decide +kernel
theorem dX2_insert_16 : decode cX2_insert 16 = .ok (.getfield 9, 3) := by decide +kernel
theorem dX2_insert_19 : decode cX2_insert 19 = .ok (.iload_n 2, 1) := by decide +kernel
theorem dX2_insert_20 : decode cX2_insert 20 = .ok (.aload_n 0, 1) := by decide +kernel
theorem dX2_insert_21 : decode cX2_insert 21 = .ok (.getfield 9, 3) := by decide +kernel
theorem dX2_insert_24 : decode cX2_insert 24 = .ok (.iload_n 2, 1) := by decide +kernel
theorem dX2_insert_25 : decode cX2_insert 25 = .ok (.iconst 1, 1) := by decide +kernel
theorem dX2_insert_26 : decode cX2_insert 26 = .ok (.iadd, 1) := by decide +kernel
theorem dX2_insert_27 : decode cX2_insert 27 = .ok (.aload_n 0, 1) := by decide +kernel
theorem dX2_insert_28 : decode cX2_insert 28 = .ok (.getfield 15, 3) := by decide +kernel
theorem dX2_insert_31 : decode cX2_insert 31 = .ok (.iload_n 2, 1) := by decide +kernel
theorem dX2_insert_32 : decode cX2_insert 32 = .ok (.isub, 1) := by decide +kernel
theorem dX2_insert_33 : decode cX2_insert 33 = .ok (.invokestatic 27, 3) := by decide +kernel
theorem dX2_insert_36 : decode cX2_insert 36 = .ok (.aload_n 0, 1) := by decide +kernel
theorem dX2_insert_37 : decode cX2_insert 37 = .ok (.getfield 9, 3) := by decide +kernel
theorem dX2_insert_40 : decode cX2_insert 40 = .ok (.iload_n 2, 1) := by decide +kernel
theorem dX2_insert_41 : decode cX2_insert 41 = .ok (.iload_n 1, 1) := by decide +kernel
theorem dX2_insert_42 : decode cX2_insert 42 = .ok (.iastore, 1) := by decide +kernel
theorem dX2_insert_43 : decode cX2_insert 43 = .ok (.aload_n 0, 1) := by decide +kernel
theorem dX2_insert_44 : decode cX2_insert 44 = .ok (.dup, 1) := by decide +kernel
theorem dX2_insert_45 : decode cX2_insert 45 = .ok (.getfield 15, 3) := by decide +kernel
theorem dX2_insert_48 : decode cX2_insert 48 = .ok (.iconst 1, 1) := by decide +kernel
theorem dX2_insert_49 : decode cX2_insert 49 = .ok (.iadd, 1) := by decide +kernel
theorem dX2_insert_50 : decode cX2_insert 50 = .ok (.putfield 15, 3) := by decide +kernel
theorem dX2_insert_53 : decode cX2_insert 53 = .ok (.return_, 1) := by decide +kernel
theorem dX2_remove_0 : decode cX2_remove 0 = .ok (.aload_n 0, 1) := by decide +kernel
theorem dX2_remove_1 : decode cX2_remove 1 = .ok (.iload_n 1, 1) := by decide +kernel
theorem dX2_remove_2 : decode cX2_remove 2 = .ok (.invokevirtual 23, 3) := by decide +kernel
theorem dX2_remove_5 : decode cX2_remove 5 = .ok (.istore_n 2, 1) := by decide +kernel
theorem dX2_remove_6 : decode cX2_remove 6 = .ok (.iload_n 2, 1) := by decide +kernel
theorem dX2_remove_7 : decode cX2_remove 7 = .ok (.aload_n 0, 1) := by decide +kernel
theorem dX2_remove_8 : decode cX2_remove 8 = .ok (.getfield 15, 3) := by decide +kernel
theorem dX2_remove_11 : decode cX2_remove 11 = .ok (.if_icmp .ge 46, 3) := by decide +kernel
theorem dX2_remove_14 : decode cX2_remove 14 = .ok (.aload_n 0, 1) := by decide +kernel
theorem dX2_remove_15 : decode cX2_remove 15 = .ok (.getfield 9, 3) := by decide +kernel
theorem dX2_remove_18 : decode cX2_remove 18 = .ok (.iload_n 2, 1) := by decide +kernel
theorem dX2_remove_19 : decode cX2_remove 19 = .ok (.iaload, 1) := by decide +kernel
theorem dX2_remove_20 : decode cX2_remove 20 = .ok (.iload_n 1, 1) := by decide +kernel
theorem dX2_remove_21 : decode cX2_remove 21 = .ok (.if_icmp .ne 36, 3) := by decide +kernel
theorem dX2_remove_24 : decode cX2_remove 24 = .ok (.aload_n 0, 1) := by decide +kernel
theorem dX2_remove_25 : decode cX2_remove 25 = .ok (.getfield 9, 3) := by decide +kernel
theorem dX2_remove_28 : decode cX2_remove 28 = .ok (.iload_n 2, 1) := by decide +kernel
theorem dX2_remove_29 : decode cX2_remove 29 = .ok (.iconst 1, 1) := by decide +kernel
theorem dX2_remove_30 : decode cX2_remove 30 = .ok (.iadd, 1) := by decide +kernel
theorem dX2_remove_31 : decode cX2_remove 31 = .ok (.aload_n 0, 1) := by decide +kernel
theorem dX2_remove_32 : decode cX2_remove 32 = .ok (.getfield 9, 3) := by decide +kernel
theorem dX2_remove_35 : decode cX2_remove 35 = .ok (.iload_n 2, 1) := by decide +kernel
theorem dX2_remove_36 : decode cX2_remove 36 = .ok (.aload_n 0, 1) := by decide +kernel
theorem dX2_remove_37 : decode cX2_remove 37 = .ok (.getfield 15, 3) := by decide +kernel
theorem dX2_remove_40 : decode cX2_remove 40 = .ok (.iload_n 2, 1) := by decide +kernel
theorem dX2_remove_41 : decode cX2_remove 41 = .ok (.isub, 1) := by decide +kernel
theorem dX2_remove_42 : decode cX2_remove 42 = .ok (.iconst 1, 1) := by decide +kernel
theorem dX2_remove_43 : decode cX2_remove 43 = .ok (.isub, 1) := by decide +kernel
theorem dX2_remove_44 : decode cX2_remove 44 = .ok (.invokestatic 27, 3) := by decide +kernel
theorem dX2_remove_47 : decode cX2_remove 47 = .ok (.aload_n 0, 1) := by decide +kernel
theorem dX2_remove_48 : decode cX2_remove 48 = .ok (.dup, 1) := by decide +kernel
theorem dX2_remove_49 : decode cX2_remove 49 = .ok (.getfield 15, 3) := by decide +kernel
theorem dX2_remove_52 : decode cX2_remove 52 = .ok (.iconst 1, 1) := by decide +kernel
theorem dX2_remove_53 : decode cX2_remove 53 = .ok (.isub, 1) := by decide +kernel
theorem dX2_remove_54 : decode cX2_remove 54 = .ok (.putfield 15, 3) := by decide +kernel
theorem dX2_remove_57 : decode cX2_remove 57 = .ok (.return_, 1) := by decide +kernel
theorem dX2_become_0 : decode cX2_become 0 = .ok (.aload_n 1, 1) := by decide +kernel
theorem dX2_become_1 : decode cX2_become 1 = .ok (.getfield 9, 3) := by decide +kernel
theorem dX2_become_4 : decode cX2_become 4 = .ok (.iconst 0, 1) := by decide +kernel
theorem dX2_become_5 : decode cX2_become 5 = .ok (.aload_n 0, 1) := by decide +kernel
theorem dX2_become_6 : decode cX2_become 6 = .ok (.getfield 9, 3) := by decide +kernel
theorem dX2_become_9 : decode cX2_become 9 = .ok (.iconst 0, 1) := by decide +kernel
theorem dX2_become_10 : decode cX2_become 10 = .ok (.aload_n 1, 1) := by decide +kernel
theorem dX2_become_11 : decode cX2_become 11 = .ok (.getfield 15, 3) := by decide +kernel
theorem dX2_become_14 : decode cX2_become 14 = .ok (.invokestatic 27, 3) := by decide +kernel
theorem dX2_become_17 : decode cX2_become 17 = .ok (.aload_n 0, 1) := by decide +kernel
theorem dX2_become_18 : decode cX2_become 18 = .ok (.aload_n 1, 1) := by decide +kernel
theorem dX2_become_19 : decode cX2_become 19 = .ok (.getfield 15, 3) := by decide +kernel
theorem dX2_become_22 : decode cX2_become 22 = .ok (.putfield 15, 3) := by decide +kernel
theorem dX2_become_25 : decode cX2_become 25 = .ok (.aload_n 0, 1) := by decide +kernel
theorem dX2_become_26 : decode cX2_become 26 = .ok (.aload_n 1, 1) := by decide +kernel
theorem dX2_become_27 : decode cX2_become 27 = .ok (.getfield 19, 3) := by decide +kernel
theorem dX2_become_30 : decode cX2_become 30 = .ok (.putfield 19, 3) := by decide +kernel
theorem dX2_become_33 : decode cX2_become 33 = .ok (.return_, 1) := by decide +kernel
theorem dX3_init_0 : decode cX3_init 0 = .ok (.aload_n 0, 1) := by decide +kernel
theorem dX3_init_1 : decode cX3_init 1 = .ok (.invokespecial 1, 3) := by decide +kernel
theorem dX3_init_4 : decode cX3_init 4 = .ok (.aload_n 0, 1) := by decide +kernel
theorem dX3_init_5 : decode cX3_init 5 = .ok (.iconst 0, 1) := by decide +kernel
theorem dX3_init_6 : decode cX3_init 6 = .ok (.putfield 7, 3) := by decide +kernel
theorem dX3_init_9 : decode cX3_init 9 = .ok (.aload_n 0, 1) := by decide +kernel
theorem dX3_init_10 : decode cX3_init 10 = .ok (.iload_n 1, 1) := by decide +kernel
theorem dX3_init_11 : decode cX3_init 11 = .ok (.putfield 13, 3) := by decide +kernel
theorem dX3_init_14 : decode cX3_init 14 = .ok (.aload_n 0, 1) := by decide +kernel
theorem dX3_init_15 : decode cX3_init 15 = .ok (.iconst 3, 1) := by decide +kernel
theorem dX3_init_16 : decode cX3_init 16 = .ok (.iload_n 1, 1) := by decide +kernel
theorem dX3_init_17 : decode cX3_init 17 = .ok (.imul, 1) := by decide +kernel
theorem dX3_init_18 : decode cX3_init 18 = .ok (.newarray .int, 2) := by decide +kernel
theorem dX3_init_20 : decode cX3_init 20 = .ok (.putfield 16, 3) := by decide +kernel
theorem dX3_init_23 : decode cX3_init 23 = .ok (.return_, 1) := by decide +kernel
theorem dX3_isFull_0 : decode cX3_isFull 0 = .ok (.aload_n 0, 1) := by decide +kernel
theorem dX3_isFull_1 : decode cX3_isFull 1 = .ok (.getfield 7, 3) := by decide +kernel
theorem dX3_isFull_4 : decode cX3_isFull 4 = .ok (.aload_n 0, 1) := by decide +kernel
theorem dX3_isFull_5 : decode cX3_isFull 5 = .ok (.getfield 13, 3) := by decide +kernel
theorem dX3_isFull_8 : decode cX3_isFull 8 = .ok (.if_icmp .lt 7, 3) := by decide +kernel
theorem dX3_isFull_11 : decode cX3_isFull 11 = .ok (.iconst 1, 1) := by decide +kernel
theorem dX3_isFull_12 : decode cX3_isFull 12 = .ok (.goto 4, 3) := by decide +kernel
theorem dX3_isFull_15 : decode cX3_isFull 15 = .ok (.iconst 0, 1) := by decide +kernel
theorem dX3_isFull_16 : decode cX3_isFull 16 = .ok (.ireturn, 1) := by decide +kernel
theorem dX3_append_0 : decode cX3_append 0 = .ok (.aload_n 0, 1) := by decide +kernel
theorem dX3_append_1 : decode cX3_append 1 = .ok (.invokevirtual 20, 3) := by decide +kernel
theorem dX3_append_4 : decode cX3_append 4 = .ok (.ifCond .ne 53, 3) := by decide +kernel
theorem dX3_append_7 : decode cX3_append 7 = .ok (.aload_n 0, 1) := by decide +kernel
theorem dX3_append_8 : decode cX3_append 8 = .ok (.getfield 16, 3) := by decide +kernel
theorem dX3_append_11 : decode cX3_append 11 = .ok (.iconst 3, 1) := by decide +kernel
theorem dX3_append_12 : decode cX3_append 12 = .ok (.aload_n 0, 1) := by decide +kernel
theorem dX3_append_13 : decode cX3_append 13 = .ok (.getfield 7, 3) := by decide +kernel
theorem dX3_append_16 : decode cX3_append 16 = .ok (.imul, 1) := by decide +kernel
theorem dX3_append_17 : decode cX3_append 17 = .ok (.iload_n 1, 1) := by decide +kernel
theorem dX3_append_18 : decode cX3_append 18 = .ok (.iastore, 1) := by decide +kernel
theorem dX3_append_19 : decode cX3_append 19 = .ok (.aload_n 0, 1) := by decide +kernel
theorem dX3_append_20 : decode cX3_append 20 = .ok (.getfield 16, 3) := by decide +kernel
theorem dX3_append_23 : decode cX3_append 23 = .ok (.iconst 3, 1) := by decide +kernel
theorem dX3_append_24 : decode cX3_append 24 = .ok (.aload_n 0, 1) := by decide +kernel
theorem dX3_append_25 : decode cX3_append 25 = .ok (.getfield 7, 3) := by decide +kernel
theorem dX3_append_28 : decode cX3_append 28 = .ok (.imul, 1) := by decide +kernel
theorem dX3_append_29 : decode cX3_append 29 = .ok (.iconst 1, 1) := by decide +kernel
theorem dX3_append_30 : decode cX3_append 30 = .ok (.iadd, 1) := by decide +kernel
theorem dX3_append_31 : decode cX3_append 31 = .ok (.iload_n 2, 1) := by decide +kernel
theorem dX3_append_32 : decode cX3_append 32 = .ok (.iastore, 1) := by decide +kernel
theorem dX3_append_33 : decode cX3_append 33 = .ok (.aload_n 0, 1) := by decide +kernel
theorem dX3_append_34 : decode cX3_append 34 = .ok (.getfield 16, 3) := by decide +kernel
theorem dX3_append_37 : decode cX3_append 37 = .ok (.iconst 3, 1) := by decide +kernel
theorem dX3_append_38 : decode cX3_append 38 = .ok (.aload_n 0, 1) := by decide +kernel
theorem dX3_append_39 : decode cX3_append 39 = .ok (.getfield 7, 3) := by decide +kernel
theorem dX3_append_42 : decode cX3_append 42 = .ok (.imul, 1) := by decide +kernel
theorem dX3_append_43 : decode cX3_append 43 = .ok (.iconst 2, 1) := by decide +kernel
theorem dX3_append_44 : decode cX3_append 44 = .ok (.iadd, 1) := by decide +kernel
theorem dX3_append_45 : decode cX3_append 45 = .ok (.iload_n 3, 1) := by decide +kernel
theorem dX3_append_46 : decode cX3_append 46 = .ok (.iastore, 1) := by decide +kernel
theorem dX3_append_47 : decode cX3_append 47 = .ok (.aload_n 0, 1) := by decide +kernel
theorem dX3_append_48 : decode cX3_append 48 = .ok (.dup, 1) := by decide +kernel
theorem dX3_append_49 : decode cX3_append 49 = .ok (.getfield 7, 3) := by decide +kernel
theorem dX3_append_52 : decode cX3_append 52 = .ok (.iconst 1, 1) := by decide +kernel
theorem dX3_append_53 : decode cX3_append 53 = .ok (.iadd, 1) := by decide +kernel
theorem dX3_append_54 : decode cX3_append 54 = .ok (.putfield 7, 3) := by decide +kernel
theorem dX3_append_57 : decode cX3_append 57 = .ok (.aload_n 0, 1) := by decide +kernel
theorem dX3_append_58 : decode cX3_append 58 = .ok (.getfield 7, 3) := by decide +kernel
theorem dX3_append_61 : decode cX3_append 61 = .ok (.ireturn, 1) := by decide +kernel
theorem dX3_subject_0 : decode cX3_subject 0 = .ok (.aload_n 0, 1) := by decide +kernel
theorem dX3_subject_1 : decode cX3_subject 1 = .ok (.getfield 16, 3) := by decide +kernel
theorem dX3_subject_4 : decode cX3_subject 4 = .ok (.iconst 3, 1) := by decide +kernel
theorem dX3_subject_5 : decode cX3_subject 5 = .ok (.iload_n 1, 1) := by decide +kernel
theorem dX3_subject_6 : decode cX3_subject 6 = .ok (.imul, 1) := by decide +kernel
theorem dX3_subject_7 : decode cX3_subject 7 = .ok (.iaload, 1) := by decide +kernel
theorem dX3_subject_8 : decode cX3_subject 8 = .ok (.ireturn, 1) := by decide +kernel
theorem dX3_property_0 : decode cX3_property 0 = .ok (.aload_n 0, 1) := by decide +kernel
theorem dX3_property_1 : decode cX3_property 1 = .ok (.getfield 16, 3) := by decide +kernel
theorem dX3_property_4 : decode cX3_property 4 = .ok (.iconst 3, 1) := by decide +kernel
theorem dX3_property_5 : decode cX3_property 5 = .ok (.iload_n 1, 1) := by decide +kernel
theorem dX3_property_6 : decode cX3_property 6 = .ok (.imul, 1) := by decide +kernel
theorem dX3_property_7 : decode cX3_property 7 = .ok (.iconst 1, 1) := by decide +kernel
theorem dX3_property_8 : decode cX3_property 8 = .ok (.iadd, 1) := by decide +kernel
theorem dX3_property_9 : decode cX3_property 9 = .ok (.iaload, 1) := by decide +kernel
theorem dX3_property_10 : decode cX3_property 10 = .ok (.ireturn, 1) := by decide +kernel
theorem dX3_object_0 : decode cX3_object 0 = .ok (.aload_n 0, 1) := by decide +kernel
theorem dX3_object_1 : decode cX3_object 1 = .ok (.getfield 16, 3) := by decide +kernel
theorem dX3_object_4 : decode cX3_object 4 = .ok (.iconst 3, 1) := by decide +kernel
theorem dX3_object_5 : decode cX3_object 5 = .ok (.iload_n 1, 1) := by decide +kernel
theorem dX3_object_6 : decode cX3_object 6 = .ok (.imul, 1) := by decide +kernel
theorem dX3_object_7 : decode cX3_object 7 = .ok (.iconst 2, 1) := by decide +kernel
theorem dX3_object_8 : decode cX3_object 8 = .ok (.iadd, 1) := by decide +kernel
theorem dX3_object_9 : decode cX3_object 9 = .ok (.iaload, 1) := by decide +kernel
theorem dX3_object_10 : decode cX3_object 10 = .ok (.ireturn, 1) := by decide +kernel
theorem dX4_init_0 : decode cX4_init 0 = .ok (.aload_n 0, 1) := by decide +kernel
theorem dX4_init_1 : decode cX4_init 1 = .ok (.invokespecial 3, 3) := by decide +kernel
theorem dX4_init_4 : decode cX4_init 4 = .ok (.aload_n 0, 1) := by decide +kernel
theorem dX4_init_5 : decode cX4_init 5 = .ok (.iconst 5, 1) := by decide +kernel
theorem dX4_init_6 : decode cX4_init 6 = .ok (.iconst 4, 1) := by decide +kernel
theorem dX4_init_7 : decode cX4_init 7 = .ok (.multianewarray 9 2, 4) := by decide +kernel
theorem dX4_init_11 : decode cX4_init 11 = .ok (.putfield 11, 3) := by decide +kernel
theorem dX4_init_14 : decode cX4_init 14 = .ok (.aload_n 0, 1) := by decide +kernel
theorem dX4_init_15 : decode cX4_init 15 = .ok (.sipush 400, 3) := by decide +kernel
theorem dX4_init_18 : decode cX4_init 18 = .ok (.newarray .int, 2) := by decide +kernel
theorem dX4_init_20 : decode cX4_init 20 = .ok (.putfield 16, 3) := by decide +kernel
theorem dX4_init_23 : decode cX4_init 23 = .ok (.aload_n 0, 1) := by decide +kernel
theorem dX4_init_24 : decode cX4_init 24 = .ok (.iconst 0, 1) := by decide +kernel
theorem dX4_init_25 : decode cX4_init 25 = .ok (.putfield 20, 3) := by decide +kernel
theorem dX4_init_28 : decode cX4_init 28 = .ok (.aload_n 0, 1) := by decide +kernel
theorem dX4_init_29 : decode cX4_init 29 = .ok (.iconst 0, 1) := by decide +kernel
theorem dX4_init_30 : decode cX4_init 30 = .ok (.putfield 24, 3) := by decide +kernel
theorem dX4_init_33 : decode cX4_init 33 = .ok (.return_, 1) := by decide +kernel
theorem dX4_find_0 : decode cX4_find 0 = .ok (.aload_n 0, 1) := by decide +kernel
theorem dX4_find_1 : decode cX4_find 1 = .ok (.iconst 0, 1) := by decide +kernel
theorem dX4_find_2 : decode cX4_find 2 = .ok (.putfield 20, 3) := by decide +kernel
theorem dX4_find_5 : decode cX4_find 5 = .ok (.aload_n 0, 1) := by decide +kernel
theorem dX4_find_6 : decode cX4_find 6 = .ok (.iconst 0, 1) := by decide +kernel
theorem dX4_find_7 : decode cX4_find 7 = .ok (.putfield 24, 3) := by decide +kernel
theorem dX4_find_10 : decode cX4_find 10 = .ok (.aload_n 0, 1) := by decide +kernel
theorem dX4_find_11 : decode cX4_find 11 = .ok (.getfield 11, 3) := by decide +kernel
theorem dX4_find_14 : decode cX4_find 14 = .ok (.iconst 0, 1) := by decide +kernel
theorem dX4_find_15 : decode cX4_find 15 = .ok (.aaload, 1) := by decide +kernel
theorem dX4_find_16 : decode cX4_find 16 = .ok (.iconst (-1), 1) := by decide +kernel
theorem dX4_find_17 : decode cX4_find 17 = .ok (.invokestatic 27, 3) := by decide +kernel
theorem dX4_find_20 : decode cX4_find 20 = .ok (.aload_n 0, 1) := by decide +kernel
theorem dX4_find_21 : decode cX4_find 21 = .ok (.aload_n 1, 1) := by decide +kernel
theorem dX4_find_22 : decode cX4_find 22 = .ok (.aload_n 2, 1) := by decide +kernel
theorem dX4_find_23 : decode cX4_find 23 = .ok (.iconst 0, 1) := by decide +kernel
theorem dX4_find_24 : decode cX4_find 24 = .ok (.invokevirtual 33, 3) := by decide +kernel
theorem dX4_find_27 : decode cX4_find 27 = .ok (.ireturn, 1) := by decide +kernel
theorem dX4_valueIn_0 : decode cX4_valueIn 0 = .ok (.aload_n 0, 1) := by decide +kernel
theorem dX4_valueIn_1 : decode cX4_valueIn 1 = .ok (.getfield 16, 3) := by decide +kernel
theorem dX4_valueIn_4 : decode cX4_valueIn 4 = .ok (.iload_n 1, 1) := by decide +kernel
theorem dX4_valueIn_5 : decode cX4_valueIn 5 = .ok (.iconst 4, 1) := by decide +kernel
theorem dX4_valueIn_6 : decode cX4_valueIn 6 = .ok (.imul, 1) := by decide +kernel
theorem dX4_valueIn_7 : decode cX4_valueIn 7 = .ok (.iconst (-1), 1) := by decide +kernel
theorem dX4_valueIn_8 : decode cX4_valueIn 8 = .ok (.iadd, 1) := by decide +kernel
theorem dX4_valueIn_9 : decode cX4_valueIn 9 = .ok (.iload_n 2, 1) := by decide +kernel
theorem dX4_valueIn_10 : decode cX4_valueIn 10 = .ok (.isub, 1) := by decide +kernel
theorem dX4_valueIn_11 : decode cX4_valueIn 11 = .ok (.iaload, 1) := by decide +kernel
theorem dX4_valueIn_12 : decode cX4_valueIn 12 = .ok (.ireturn, 1) := by decide +kernel
theorem dX4_goOn_0 : decode cX4_goOn 0 = .ok (.iload_n 3, 1) := by decide +kernel
theorem dX4_goOn_1 : decode cX4_goOn 1 = .ok (.aload_n 1, 1) := by decide +kernel
theorem dX4_goOn_2 : decode cX4_goOn 2 = .ok (.getfield 37, 3) := by decide +kernel
theorem dX4_goOn_5 : decode cX4_goOn 5 = .ok (.if_icmp .ge 8, 3) := by decide +kernel
theorem dX4_goOn_8 : decode cX4_goOn 8 = .ok (.iload_n 3, 1) := by decide +kernel
theorem dX4_goOn_9 : decode cX4_goOn 9 = .ok (.iconst 4, 1) := by decide +kernel
theorem dX4_goOn_10 : decode cX4_goOn 10 = .ok (.if_icmp .lt 14, 3) := by decide +kernel
theorem dX4_goOn_13 : decode cX4_goOn 13 = .ok (.aload_n 0, 1) := by decide +kernel
theorem dX4_goOn_14 : decode cX4_goOn 14 = .ok (.aload_n 0, 1) := by decide +kernel
theorem dX4_goOn_15 : decode cX4_goOn 15 = .ok (.getfield 11, 3) := by decide +kernel
theorem dX4_goOn_18 : decode cX4_goOn 18 = .ok (.iload_n 3, 1) := by decide +kernel
theorem dX4_goOn_19 : decode cX4_goOn 19 = .ok (.aaload, 1) := by decide +kernel
theorem dX4_goOn_20 : decode cX4_goOn 20 = .ok (.invokevirtual 42, 3) := by decide +kernel
theorem dX4_goOn_23 : decode cX4_goOn 23 = .ok (.ireturn, 1) := by decide +kernel
theorem dX4_goOn_24 : decode cX4_goOn 24 = .ok (.iconst 1, 1) := by decide +kernel
theorem dX4_goOn_25 : decode cX4_goOn 25 = .ok (.istore 4, 2) := by decide +kernel
theorem dX4_goOn_27 : decode cX4_goOn 27 = .ok (.iconst 0, 1) := by decide +kernel
theorem dX4_goOn_28 : decode cX4_goOn 28 = .ok (.istore 5, 2) := by decide +kernel
theorem dX4_goOn_30 : decode cX4_goOn 30 = .ok (.iload 5, 2) := by decide +kernel
theorem dX4_goOn_32 : decode cX4_goOn 32 = .ok (.aload_n 2, 1) := by decide +kernel
theorem dX4_goOn_33 : decode cX4_goOn 33 = .ok (.getfield 46, 3) := by decide +kernel
theorem dX4_goOn_36 : decode cX4_goOn 36 = .ok (.if_icmp .ge 30, 3) := by decide +kernel
theorem dX4_goOn_39 : decode cX4_goOn 39 = .ok (.iload 4, 2) := by decide +kernel
theorem dX4_goOn_41 : decode cX4_goOn 41 = .ok (.ifCond .eq 25, 3) := by decide +kernel
theorem dX4_goOn_44 : decode cX4_goOn 44 = .ok (.aload_n 0, 1) := by decide +kernel
theorem dX4_goOn_45 : decode cX4_goOn 45 = .ok (.aload_n 1, 1) := by decide +kernel
theorem dX4_goOn_46 : decode cX4_goOn 46 = .ok (.aload_n 2, 1) := by decide +kernel
theorem dX4_goOn_47 : decode cX4_goOn 47 = .ok (.iload_n 3, 1) := by decide +kernel
theorem dX4_goOn_48 : decode cX4_goOn 48 = .ok (.aload_n 2, 1) := by decide +kernel
theorem dX4_goOn_49 : decode cX4_goOn 49 = .ok (.getfield 51, 3) := by decide +kernel
theorem dX4_goOn_52 : decode cX4_goOn 52 = .ok (.iload 5, 2) := by decide +kernel
theorem dX4_goOn_54 : decode cX4_goOn 54 = .ok (.iaload, 1) := by decide +kernel
theorem dX4_goOn_55 : decode cX4_goOn 55 = .ok (.invokevirtual 54, 3) := by decide +kernel
theorem dX4_goOn_58 : decode cX4_goOn 58 = .ok (.istore 4, 2) := by decide +kernel
theorem dX4_goOn_60 : decode cX4_goOn 60 = .ok (.iinc 5 1, 3) := by decide +kernel
theorem dX4_goOn_63 : decode cX4_goOn 63 = .ok (.goto (-33), 3) := by decide +kernel
theorem dX4_goOn_66 : decode cX4_goOn 66 = .ok (.iload 4, 2) := by decide +kernel
theorem dX4_goOn_68 : decode cX4_goOn 68 = .ok (.ireturn, 1) := by decide +kernel
theorem dX4_holdAgainst_0 : decode cX4_holdAgainst 0 = .ok (.aload_n 0, 1) := by decide +kernel
theorem dX4_holdAgainst_1 : decode cX4_holdAgainst 1 = .ok (.dup, 1) := by decide +kernel
theorem dX4_holdAgainst_2 : decode cX4_holdAgainst 2 = .ok (.getfield 24, 3) := by decide +kernel
theorem dX4_holdAgainst_5 : decode cX4_holdAgainst 5 = .ok (.iconst 1, 1) := by decide +kernel
theorem dX4_holdAgainst_6 : decode cX4_holdAgainst 6 = .ok (.iadd, 1) := by decide +kernel
theorem dX4_holdAgainst_7 : decode cX4_holdAgainst 7 = .ok (.putfield 24, 3) := by decide +kernel
theorem dX4_holdAgainst_10 : decode cX4_holdAgainst 10 = .ok (.aload_n 0, 1) := by decide +kernel
theorem dX4_holdAgainst_11 : decode cX4_holdAgainst 11 = .ok (.getfield 24, 3) := by decide +kernel
theorem dX4_holdAgainst_14 : decode cX4_holdAgainst 14 = .ok (.sipush 5000, 3) := by decide +kernel
theorem dX4_holdAgainst_17 : decode cX4_holdAgainst 17 = .ok (.if_icmp .le 5, 3) := by decide +kernel
theorem dX4_holdAgainst_20 : decode cX4_holdAgainst 20 = .ok (.iconst 0, 1) := by decide +kernel
theorem dX4_holdAgainst_21 : decode cX4_holdAgainst 21 = .ok (.ireturn, 1) := by decide +kernel
theorem dX4_holdAgainst_22 : decode cX4_holdAgainst 22 = .ok (.aload_n 0, 1) := by decide +kernel
theorem dX4_holdAgainst_23 : decode cX4_holdAgainst 23 = .ok (.aload_n 1, 1) := by decide +kernel
theorem dX4_holdAgainst_24 : decode cX4_holdAgainst 24 = .ok (.iload_n 3, 1) := by decide +kernel
theorem dX4_holdAgainst_25 : decode cX4_holdAgainst 25 = .ok (.iload 4, 2) := by decide +kernel
theorem dX4_holdAgainst_27 : decode cX4_holdAgainst 27 = .ok (.invokevirtual 58, 3) := by decide +kernel
theorem dX4_holdAgainst_30 : decode cX4_holdAgainst 30 = .ok (.ifCond .eq 15, 3) := by decide +kernel
theorem dX4_holdAgainst_33 : decode cX4_holdAgainst 33 = .ok (.aload_n 0, 1) := by decide +kernel
theorem dX4_holdAgainst_34 : decode cX4_holdAgainst 34 = .ok (.aload_n 1, 1) := by decide +kernel
theorem dX4_holdAgainst_35 : decode cX4_holdAgainst 35 = .ok (.aload_n 2, 1) := by decide +kernel
theorem dX4_holdAgainst_36 : decode cX4_holdAgainst 36 = .ok (.iload_n 3, 1) := by decide +kernel
theorem dX4_holdAgainst_37 : decode cX4_holdAgainst 37 = .ok (.iconst 1, 1) := by decide +kernel
theorem dX4_holdAgainst_38 : decode cX4_holdAgainst 38 = .ok (.iadd, 1) := by decide +kernel
theorem dX4_holdAgainst_39 : decode cX4_holdAgainst 39 = .ok (.invokevirtual 33, 3) := by decide +kernel
theorem dX4_holdAgainst_42 : decode cX4_holdAgainst 42 = .ok (.ifCond .eq 7, 3) := by decide +kernel
theorem dX4_holdAgainst_45 : decode cX4_holdAgainst 45 = .ok (.iconst 1, 1) := by decide +kernel
theorem dX4_holdAgainst_46 : decode cX4_holdAgainst 46 = .ok (.goto 4, 3) := by decide +kernel
theorem dX4_holdAgainst_49 : decode cX4_holdAgainst 49 = .ok (.iconst 0, 1) := by decide +kernel
theorem dX4_holdAgainst_50 : decode cX4_holdAgainst 50 = .ok (.ireturn, 1) := by decide +kernel
theorem dX4_keep_0 : decode cX4_keep 0 = .ok (.aload_n 0, 1) := by decide +kernel
theorem dX4_keep_1 : decode cX4_keep 1 = .ok (.dup, 1) := by decide +kernel
theorem dX4_keep_2 : decode cX4_keep 2 = .ok (.getfield 20, 3) := by decide +kernel
theorem dX4_keep_5 : decode cX4_keep 5 = .ok (.iconst 1, 1) := by decide +kernel
theorem dX4_keep_6 : decode cX4_keep 6 = .ok (.iadd, 1) := by decide +kernel
theorem dX4_keep_7 : decode cX4_keep 7 = .ok (.putfield 20, 3) := by decide +kernel
theorem dX4_keep_10 : decode cX4_keep 10 = .ok (.aload_n 0, 1) := by decide +kernel
theorem dX4_keep_11 : decode cX4_keep 11 = .ok (.getfield 20, 3) := by decide +kernel
theorem dX4_keep_14 : decode cX4_keep 14 = .ok (.bipush 100, 2) := by decide +kernel
theorem dX4_keep_16 : decode cX4_keep 16 = .ok (.if_icmp .le 5, 3) := by decide +kernel
theorem dX4_keep_19 : decode cX4_keep 19 = .ok (.iconst 0, 1) := by decide +kernel
theorem dX4_keep_20 : decode cX4_keep 20 = .ok (.ireturn, 1) := by decide +kernel
theorem dX4_keep_21 : decode cX4_keep 21 = .ok (.aload_n 1, 1) := by decide +kernel
theorem dX4_keep_22 : decode cX4_keep 22 = .ok (.iconst 0, 1) := by decide +kernel
theorem dX4_keep_23 : decode cX4_keep 23 = .ok (.aload_n 0, 1) := by decide +kernel
theorem dX4_keep_24 : decode cX4_keep 24 = .ok (.getfield 16, 3) := by decide +kernel
theorem dX4_keep_27 : decode cX4_keep 27 = .ok (.aload_n 0, 1) := by decide +kernel
theorem dX4_keep_28 : decode cX4_keep 28 = .ok (.getfield 20, 3) := by decide +kernel
theorem dX4_keep_31 : decode cX4_keep 31 = .ok (.iconst 1, 1) := by decide +kernel
theorem dX4_keep_32 : decode cX4_keep 32 = .ok (.isub, 1) := by decide +kernel
theorem dX4_keep_33 : decode cX4_keep 33 = .ok (.iconst 4, 1) := by decide +kernel
theorem dX4_keep_34 : decode cX4_keep 34 = .ok (.imul, 1) := by decide +kernel
theorem dX4_keep_35 : decode cX4_keep 35 = .ok (.iconst 4, 1) := by decide +kernel
theorem dX4_keep_36 : decode cX4_keep 36 = .ok (.invokestatic 62, 3) := by decide +kernel
theorem dX4_keep_39 : decode cX4_keep 39 = .ok (.iconst 1, 1) := by decide +kernel
theorem dX4_keep_40 : decode cX4_keep 40 = .ok (.ireturn, 1) := by decide +kernel
theorem dX4_fits_0 : decode cX4_fits 0 = .ok (.aload_n 0, 1) := by decide +kernel
theorem dX4_fits_1 : decode cX4_fits 1 = .ok (.getfield 11, 3) := by decide +kernel
theorem dX4_fits_4 : decode cX4_fits 4 = .ok (.iload_n 2, 1) := by decide +kernel
theorem dX4_fits_5 : decode cX4_fits 5 = .ok (.iconst 1, 1) := by decide +kernel
theorem dX4_fits_6 : decode cX4_fits 6 = .ok (.iadd, 1) := by decide +kernel
theorem dX4_fits_7 : decode cX4_fits 7 = .ok (.aaload, 1) := by decide +kernel
theorem dX4_fits_8 : decode cX4_fits 8 = .ok (.astore 4, 2) := by decide +kernel
theorem dX4_fits_10 : decode cX4_fits 10 = .ok (.aload_n 0, 1) := by decide +kernel
theorem dX4_fits_11 : decode cX4_fits 11 = .ok (.getfield 11, 3) := by decide +kernel
theorem dX4_fits_14 : decode cX4_fits 14 = .ok (.iload_n 2, 1) := by decide +kernel
theorem dX4_fits_15 : decode cX4_fits 15 = .ok (.aaload, 1) := by decide +kernel
theorem dX4_fits_16 : decode cX4_fits 16 = .ok (.iconst 0, 1) := by decide +kernel
theorem dX4_fits_17 : decode cX4_fits 17 = .ok (.aload 4, 2) := by decide +kernel
theorem dX4_fits_19 : decode cX4_fits 19 = .ok (.iconst 0, 1) := by decide +kernel
theorem dX4_fits_20 : decode cX4_fits 20 = .ok (.iconst 4, 1) := by decide +kernel
theorem dX4_fits_21 : decode cX4_fits 21 = .ok (.invokestatic 62, 3) := by decide +kernel
theorem dX4_fits_24 : decode cX4_fits 24 = .ok (.aload 4, 2) := by decide +kernel
theorem dX4_fits_26 : decode cX4_fits 26 = .ok (.aload_n 1, 1) := by decide +kernel
theorem dX4_fits_27 : decode cX4_fits 27 = .ok (.iload_n 2, 1) := by decide +kernel
theorem dX4_fits_28 : decode cX4_fits 28 = .ok (.invokevirtual 68, 3) := by decide +kernel
theorem dX4_fits_31 : decode cX4_fits 31 = .ok (.iload_n 3, 1) := by decide +kernel
theorem dX4_fits_32 : decode cX4_fits 32 = .ok (.iconst 0, 1) := by decide +kernel
theorem dX4_fits_33 : decode cX4_fits 33 = .ok (.invokestatic 72, 3) := by decide +kernel
theorem dX4_fits_36 : decode cX4_fits 36 = .ok (.invokestatic 76, 3) := by decide +kernel
theorem dX4_fits_39 : decode cX4_fits 39 = .ok (.ifCond .eq 43, 3) := by decide +kernel
theorem dX4_fits_42 : decode cX4_fits 42 = .ok (.aload 4, 2) := by decide +kernel
theorem dX4_fits_44 : decode cX4_fits 44 = .ok (.aload_n 1, 1) := by decide +kernel
theorem dX4_fits_45 : decode cX4_fits 45 = .ok (.iload_n 2, 1) := by decide +kernel
theorem dX4_fits_46 : decode cX4_fits 46 = .ok (.invokevirtual 80, 3) := by decide +kernel
theorem dX4_fits_49 : decode cX4_fits 49 = .ok (.iload_n 3, 1) := by decide +kernel
theorem dX4_fits_50 : decode cX4_fits 50 = .ok (.iconst 1, 1) := by decide +kernel
theorem dX4_fits_51 : decode cX4_fits 51 = .ok (.invokestatic 72, 3) := by decide +kernel
theorem dX4_fits_54 : decode cX4_fits 54 = .ok (.invokestatic 76, 3) := by decide +kernel
theorem dX4_fits_57 : decode cX4_fits 57 = .ok (.ifCond .eq 25, 3) := by decide +kernel
theorem dX4_fits_60 : decode cX4_fits 60 = .ok (.aload 4, 2) := by decide +kernel
theorem dX4_fits_62 : decode cX4_fits 62 = .ok (.aload_n 1, 1) := by decide +kernel
theorem dX4_fits_63 : decode cX4_fits 63 = .ok (.iload_n 2, 1) := by decide +kernel
theorem dX4_fits_64 : decode cX4_fits 64 = .ok (.invokevirtual 83, 3) := by decide +kernel
theorem dX4_fits_67 : decode cX4_fits 67 = .ok (.iload_n 3, 1) := by decide +kernel
theorem dX4_fits_68 : decode cX4_fits 68 = .ok (.iconst 2, 1) := by decide +kernel
theorem dX4_fits_69 : decode cX4_fits 69 = .ok (.invokestatic 72, 3) := by decide +kernel
theorem dX4_fits_72 : decode cX4_fits 72 = .ok (.invokestatic 76, 3) := by decide +kernel
theorem dX4_fits_75 : decode cX4_fits 75 = .ok (.ifCond .eq 7, 3) := by decide +kernel
theorem dX4_fits_78 : decode cX4_fits 78 = .ok (.iconst 1, 1) := by decide +kernel
theorem dX4_fits_79 : decode cX4_fits 79 = .ok (.goto 4, 3) := by decide +kernel
theorem dX4_fits_82 : decode cX4_fits 82 = .ok (.iconst 0, 1) := by decide +kernel
theorem dX4_fits_83 : decode cX4_fits 83 = .ok (.ireturn, 1) := by decide +kernel
theorem dX4_agrees_0 : decode cX4_agrees 0 = .ok (.iload_n 1, 1) := by decide +kernel
theorem dX4_agrees_1 : decode cX4_agrees 1 = .ok (.ifCond .lt 14, 3) := by decide +kernel
theorem dX4_agrees_4 : decode cX4_agrees 4 = .ok (.iload_n 1, 1) := by decide +kernel
theorem dX4_agrees_5 : decode cX4_agrees 5 = .ok (.iload_n 2, 1) := by decide +kernel
theorem dX4_agrees_6 : decode cX4_agrees 6 = .ok (.if_icmp .ne 7, 3) := by decide +kernel
theorem dX4_agrees_9 : decode cX4_agrees 9 = .ok (.iconst 1, 1) := by decide +kernel
theorem dX4_agrees_10 : decode cX4_agrees 10 = .ok (.goto 4, 3) := by decide +kernel
theorem dX4_agrees_13 : decode cX4_agrees 13 = .ok (.iconst 0, 1) := by decide +kernel
theorem dX4_agrees_14 : decode cX4_agrees 14 = .ok (.ireturn, 1) := by decide +kernel
theorem dX4_agrees_15 : decode cX4_agrees 15 = .ok (.iconst (-1), 1) := by decide +kernel
theorem dX4_agrees_16 : decode cX4_agrees 16 = .ok (.iload_n 1, 1) := by decide +kernel
theorem dX4_agrees_17 : decode cX4_agrees 17 = .ok (.isub, 1) := by decide +kernel
theorem dX4_agrees_18 : decode cX4_agrees 18 = .ok (.istore_n 3, 1) := by decide +kernel
theorem dX4_agrees_19 : decode cX4_agrees 19 = .ok (.aload_n 0, 1) := by decide +kernel
theorem dX4_agrees_20 : decode cX4_agrees 20 = .ok (.iload_n 3, 1) := by decide +kernel
theorem dX4_agrees_21 : decode cX4_agrees 21 = .ok (.iaload, 1) := by decide +kernel
theorem dX4_agrees_22 : decode cX4_agrees 22 = .ok (.iconst (-1), 1) := by decide +kernel
theorem dX4_agrees_23 : decode cX4_agrees 23 = .ok (.if_icmp .ne 7, 3) := by decide +kernel
theorem dX4_agrees_26 : decode cX4_agrees 26 = .ok (.aload_n 0, 1) := by decide +kernel
theorem dX4_agrees_27 : decode cX4_agrees 27 = .ok (.iload_n 3, 1) := by decide +kernel
theorem dX4_agrees_28 : decode cX4_agrees 28 = .ok (.iload_n 2, 1) := by decide +kernel
theorem dX4_agrees_29 : decode cX4_agrees 29 = .ok (.iastore, 1) := by decide +kernel
theorem dX4_agrees_30 : decode cX4_agrees 30 = .ok (.aload_n 0, 1) := by decide +kernel
theorem dX4_agrees_31 : decode cX4_agrees 31 = .ok (.iload_n 3, 1) := by decide +kernel
theorem dX4_agrees_32 : decode cX4_agrees 32 = .ok (.iaload, 1) := by decide +kernel
theorem dX4_agrees_33 : decode cX4_agrees 33 = .ok (.iload_n 2, 1) := by decide +kernel
theorem dX4_agrees_34 : decode cX4_agrees 34 = .ok (.if_icmp .ne 7, 3) := by decide +kernel
theorem dX4_agrees_37 : decode cX4_agrees 37 = .ok (.iconst 1, 1) := by decide +kernel
theorem dX4_agrees_38 : decode cX4_agrees 38 = .ok (.goto 4, 3) := by decide +kernel
theorem dX4_agrees_41 : decode cX4_agrees 41 = .ok (.iconst 0, 1) := by decide +kernel
theorem dX4_agrees_42 : decode cX4_agrees 42 = .ok (.ireturn, 1) := by decide +kernel
theorem dX5_init_0 : decode cX5_init 0 = .ok (.aload_n 0, 1) := by decide +kernel
theorem dX5_init_1 : decode cX5_init 1 = .ok (.invokespecial 3, 3) := by decide +kernel
theorem dX5_init_4 : decode cX5_init 4 = .ok (.aload_n 0, 1) := by decide +kernel
theorem dX5_init_5 : decode cX5_init 5 = .ok (.new 9, 3) := by decide +kernel
theorem dX5_init_8 : decode cX5_init 8 = .ok (.dup, 1) := by decide +kernel
theorem dX5_init_9 : decode cX5_init 9 = .ok (.bipush 6, 2) := by decide +kernel
theorem dX5_init_11 : decode cX5_init 11 = .ok (.invokespecial 11, 3) := by decide +kernel
theorem dX5_init_14 : decode cX5_init 14 = .ok (.putfield 14, 3) := by decide +kernel
theorem dX5_init_17 : decode cX5_init 17 = .ok (.aload_n 0, 1) := by decide +kernel
theorem dX5_init_18 : decode cX5_init 18 = .ok (.bipush 6, 2) := by decide +kernel
theorem dX5_init_20 : decode cX5_init 20 = .ok (.newarray .boolean, 2) := by decide +kernel
theorem dX5_init_22 : decode cX5_init 22 = .ok (.putfield 20, 3) := by decide +kernel
theorem dX5_init_25 : decode cX5_init 25 = .ok (.aload_n 0, 1) := by decide +kernel
theorem dX5_init_26 : decode cX5_init 26 = .ok (.new 9, 3) := by decide +kernel
theorem dX5_init_29 : decode cX5_init 29 = .ok (.dup, 1) := by decide +kernel
theorem dX5_init_30 : decode cX5_init 30 = .ok (.iconst 4, 1) := by decide +kernel
theorem dX5_init_31 : decode cX5_init 31 = .ok (.invokespecial 11, 3) := by decide +kernel
theorem dX5_init_34 : decode cX5_init 34 = .ok (.putfield 24, 3) := by decide +kernel
theorem dX5_init_37 : decode cX5_init 37 = .ok (.aload_n 0, 1) := by decide +kernel
theorem dX5_init_38 : decode cX5_init 38 = .ok (.iconst 0, 1) := by decide +kernel
theorem dX5_init_39 : decode cX5_init 39 = .ok (.putfield 27, 3) := by decide +kernel
theorem dX5_init_42 : decode cX5_init 42 = .ok (.aload_n 0, 1) := by decide +kernel
theorem dX5_init_43 : decode cX5_init 43 = .ok (.iconst 0, 1) := by decide +kernel
theorem dX5_init_44 : decode cX5_init 44 = .ok (.putfield 31, 3) := by decide +kernel
theorem dX5_init_47 : decode cX5_init 47 = .ok (.aload_n 0, 1) := by decide +kernel
theorem dX5_init_48 : decode cX5_init 48 = .ok (.iconst 0, 1) := by decide +kernel
theorem dX5_init_49 : decode cX5_init 49 = .ok (.putfield 34, 3) := by decide +kernel
theorem dX5_init_52 : decode cX5_init 52 = .ok (.aload_n 0, 1) := by decide +kernel
theorem dX5_init_53 : decode cX5_init 53 = .ok (.iconst 0, 1) := by decide +kernel
theorem dX5_init_54 : decode cX5_init 54 = .ok (.putfield 37, 3) := by decide +kernel
theorem dX5_init_57 : decode cX5_init 57 = .ok (.aload_n 0, 1) := by decide +kernel
theorem dX5_init_58 : decode cX5_init 58 = .ok (.iconst (-1), 1) := by decide +kernel
theorem dX5_init_59 : decode cX5_init 59 = .ok (.putfield 41, 3) := by decide +kernel
theorem dX5_init_62 : decode cX5_init 62 = .ok (.return_, 1) := by decide +kernel
theorem dX5_begin_0 : decode cX5_begin 0 = .ok (.aload_n 0, 1) := by decide +kernel
theorem dX5_begin_1 : decode cX5_begin 1 = .ok (.iload_n 1, 1) := by decide +kernel
theorem dX5_begin_2 : decode cX5_begin 2 = .ok (.putfield 27, 3) := by decide +kernel
theorem dX5_begin_5 : decode cX5_begin 5 = .ok (.aload_n 0, 1) := by decide +kernel
theorem dX5_begin_6 : decode cX5_begin 6 = .ok (.iload_n 2, 1) := by decide +kernel
theorem dX5_begin_7 : decode cX5_begin 7 = .ok (.putfield 31, 3) := by decide +kernel
theorem dX5_begin_10 : decode cX5_begin 10 = .ok (.aload_n 0, 1) := by decide +kernel
theorem dX5_begin_11 : decode cX5_begin 11 = .ok (.iload_n 3, 1) := by decide +kernel
theorem dX5_begin_12 : decode cX5_begin 12 = .ok (.putfield 34, 3) := by decide +kernel
theorem dX5_begin_15 : decode cX5_begin 15 = .ok (.aload_n 0, 1) := by decide +kernel
theorem dX5_begin_16 : decode cX5_begin 16 = .ok (.iconst 0, 1) := by decide +kernel
theorem dX5_begin_17 : decode cX5_begin 17 = .ok (.putfield 37, 3) := by decide +kernel
theorem dX5_begin_20 : decode cX5_begin 20 = .ok (.aload_n 0, 1) := by decide +kernel
theorem dX5_begin_21 : decode cX5_begin 21 = .ok (.iconst (-1), 1) := by decide +kernel
theorem dX5_begin_22 : decode cX5_begin 22 = .ok (.putfield 41, 3) := by decide +kernel
theorem dX5_begin_25 : decode cX5_begin 25 = .ok (.aload_n 0, 1) := by decide +kernel
theorem dX5_begin_26 : decode cX5_begin 26 = .ok (.getfield 14, 3) := by decide +kernel
theorem dX5_begin_29 : decode cX5_begin 29 = .ok (.iconst 0, 1) := by decide +kernel
theorem dX5_begin_30 : decode cX5_begin 30 = .ok (.putfield 44, 3) := by decide +kernel
theorem dX5_begin_33 : decode cX5_begin 33 = .ok (.aload_n 0, 1) := by decide +kernel
theorem dX5_begin_34 : decode cX5_begin 34 = .ok (.getfield 24, 3) := by decide +kernel
theorem dX5_begin_37 : decode cX5_begin 37 = .ok (.iconst 0, 1) := by decide +kernel
theorem dX5_begin_38 : decode cX5_begin 38 = .ok (.putfield 44, 3) := by decide +kernel
theorem dX5_begin_41 : decode cX5_begin 41 = .ok (.return_, 1) := by decide +kernel
theorem dX5_addTemplate_0 : decode cX5_addTemplate 0 = .ok (.aload_n 0, 1) := by decide +kernel
theorem dX5_addTemplate_1 : decode cX5_addTemplate 1 = .ok (.getfield 14, 3) := by decide +kernel
theorem dX5_addTemplate_4 : decode cX5_addTemplate 4 = .ok (.invokevirtual 47, 3) := by decide +kernel
theorem dX5_addTemplate_7 : decode cX5_addTemplate 7 = .ok (.ifCond .ne 17, 3) := by decide +kernel
theorem dX5_addTemplate_10 : decode cX5_addTemplate 10 = .ok (.aload_n 0, 1) := by decide +kernel
theorem dX5_addTemplate_11 : decode cX5_addTemplate 11 = .ok (.getfield 20, 3) := by decide +kernel
theorem dX5_addTemplate_14 : decode cX5_addTemplate 14 = .ok (.aload_n 0, 1) := by decide +kernel
theorem dX5_addTemplate_15 : decode cX5_addTemplate 15 = .ok (.getfield 14, 3) := by decide +kernel
theorem dX5_addTemplate_18 : decode cX5_addTemplate 18 = .ok (.getfield 44, 3) := by decide +kernel
theorem dX5_addTemplate_21 : decode cX5_addTemplate 21 = .ok (.iload 4, 2) := by decide +kernel
theorem dX5_addTemplate_23 : decode cX5_addTemplate 23 = .ok (.bastore, 1) := by decide +kernel
theorem dX5_addTemplate_24 : decode cX5_addTemplate 24 = .ok (.aload_n 0, 1) := by decide +kernel
theorem dX5_addTemplate_25 : decode cX5_addTemplate 25 = .ok (.getfield 14, 3) := by decide +kernel
theorem dX5_addTemplate_28 : decode cX5_addTemplate 28 = .ok (.iload_n 1, 1) := by decide +kernel
theorem dX5_addTemplate_29 : decode cX5_addTemplate 29 = .ok (.iload_n 2, 1) := by decide +kernel
theorem dX5_addTemplate_30 : decode cX5_addTemplate 30 = .ok (.iload_n 3, 1) := by decide +kernel
theorem dX5_addTemplate_31 : decode cX5_addTemplate 31 = .ok (.invokevirtual 51, 3) := by decide +kernel
theorem dX5_addTemplate_34 : decode cX5_addTemplate 34 = .ok (.ireturn, 1) := by decide +kernel
theorem dX6_init_0 : decode cX6_init 0 = .ok (.aload_n 0, 1) := by decide +kernel
theorem dX6_init_1 : decode cX6_init 1 = .ok (.invokespecial 3, 3) := by decide +kernel
theorem dX6_init_4 : decode cX6_init 4 = .ok (.aload_n 0, 1) := by decide +kernel
theorem dX6_init_5 : decode cX6_init 5 = .ok (.bipush 7, 2) := by decide +kernel
theorem dX6_init_7 : decode cX6_init 7 = .ok (.anewarray 9, 3) := by decide +kernel
theorem dX6_init_10 : decode cX6_init 10 = .ok (.putfield 11, 3) := by decide +kernel
theorem dX6_init_13 : decode cX6_init 13 = .ok (.aload_n 0, 1) := by decide +kernel
theorem dX6_init_14 : decode cX6_init 14 = .ok (.iconst 0, 1) := by decide +kernel
theorem dX6_init_15 : decode cX6_init 15 = .ok (.putfield 17, 3) := by decide +kernel
theorem dX6_init_18 : decode cX6_init 18 = .ok (.iconst 0, 1) := by decide +kernel
theorem dX6_init_19 : decode cX6_init 19 = .ok (.istore_n 1, 1) := by decide +kernel
theorem dX6_init_20 : decode cX6_init 20 = .ok (.iload_n 1, 1) := by decide +kernel
theorem dX6_init_21 : decode cX6_init 21 = .ok (.bipush 7, 2) := by decide +kernel
theorem dX6_init_23 : decode cX6_init 23 = .ok (.if_icmp .ge 22, 3) := by decide +kernel
theorem dX6_init_26 : decode cX6_init 26 = .ok (.aload_n 0, 1) := by decide +kernel
theorem dX6_init_27 : decode cX6_init 27 = .ok (.getfield 11, 3) := by decide +kernel
theorem dX6_init_30 : decode cX6_init 30 = .ok (.iload_n 1, 1) := by decide +kernel
theorem dX6_init_31 : decode cX6_init 31 = .ok (.new 9, 3) := by decide +kernel
theorem dX6_init_34 : decode cX6_init 34 = .ok (.dup, 1) := by decide +kernel
theorem dX6_init_35 : decode cX6_init 35 = .ok (.invokespecial 21, 3) := by decide +kernel
theorem dX6_init_38 : decode cX6_init 38 = .ok (.aastore, 1) := by decide +kernel
theorem dX6_init_39 : decode cX6_init 39 = .ok (.iinc 1 1, 3) := by decide +kernel
theorem dX6_init_42 : decode cX6_init 42 = .ok (.goto (-22), 3) := by decide +kernel
theorem dX6_init_45 : decode cX6_init 45 = .ok (.aload_n 0, 1) := by decide +kernel
theorem dX6_init_46 : decode cX6_init 46 = .ok (.getfield 11, 3) := by decide +kernel
theorem dX6_init_49 : decode cX6_init 49 = .ok (.iconst 0, 1) := by decide +kernel
theorem dX6_init_50 : decode cX6_init 50 = .ok (.aaload, 1) := by decide +kernel
theorem dX6_init_51 : decode cX6_init 51 = .ok (.iconst 1, 1) := by decide +kernel
theorem dX6_init_52 : decode cX6_init 52 = .ok (.putfield 22, 3) := by decide +kernel
theorem dX6_init_55 : decode cX6_init 55 = .ok (.return_, 1) := by decide +kernel
theorem dX6_factCount_0 : decode cX6_factCount 0 = .ok (.iconst 0, 1) := by decide +kernel
theorem dX6_factCount_1 : decode cX6_factCount 1 = .ok (.istore_n 1, 1) := by decide +kernel
theorem dX6_factCount_2 : decode cX6_factCount 2 = .ok (.iconst 0, 1) := by decide +kernel
theorem dX6_factCount_3 : decode cX6_factCount 3 = .ok (.istore_n 2, 1) := by decide +kernel
theorem dX6_factCount_4 : decode cX6_factCount 4 = .ok (.iload_n 2, 1) := by decide +kernel
theorem dX6_factCount_5 : decode cX6_factCount 5 = .ok (.bipush 7, 2) := by decide +kernel
theorem dX6_factCount_7 : decode cX6_factCount 7 = .ok (.if_icmp .ge 21, 3) := by decide +kernel
theorem dX6_factCount_10 : decode cX6_factCount 10 = .ok (.iload_n 1, 1) := by decide +kernel
theorem dX6_factCount_11 : decode cX6_factCount 11 = .ok (.aload_n 0, 1) := by decide +kernel
theorem dX6_factCount_12 : decode cX6_factCount 12 = .ok (.getfield 11, 3) := by decide +kernel
theorem dX6_factCount_15 : decode cX6_factCount 15 = .ok (.iload_n 2, 1) := by decide +kernel
theorem dX6_factCount_16 : decode cX6_factCount 16 = .ok (.aaload, 1) := by decide +kernel
theorem dX6_factCount_17 : decode cX6_factCount 17 = .ok (.getfield 26, 3) := by decide +kernel
theorem dX6_factCount_20 : decode cX6_factCount 20 = .ok (.iadd, 1) := by decide +kernel
theorem dX6_factCount_21 : decode cX6_factCount 21 = .ok (.istore_n 1, 1) := by decide +kernel
theorem dX6_factCount_22 : decode cX6_factCount 22 = .ok (.iinc 2 1, 3) := by decide +kernel
theorem dX6_factCount_25 : decode cX6_factCount 25 = .ok (.goto (-21), 3) := by decide +kernel
theorem dX6_factCount_28 : decode cX6_factCount 28 = .ok (.iload_n 1, 1) := by decide +kernel
theorem dX6_factCount_29 : decode cX6_factCount 29 = .ok (.ireturn, 1) := by decide +kernel
theorem dX6_put_0 : decode cX6_put 0 = .ok (.aload_n 1, 1) := by decide +kernel
theorem dX6_put_1 : decode cX6_put 1 = .ok (.iconst 1, 1) := by decide +kernel
theorem dX6_put_2 : decode cX6_put 2 = .ok (.putfield 22, 3) := by decide +kernel
theorem dX6_put_5 : decode cX6_put 5 = .ok (.aload_n 1, 1) := by decide +kernel
theorem dX6_put_6 : decode cX6_put 6 = .ok (.iload_n 2, 1) := by decide +kernel
theorem dX6_put_7 : decode cX6_put 7 = .ok (.invokevirtual 29, 3) := by decide +kernel
theorem dX6_put_10 : decode cX6_put 10 = .ok (.ifCond .eq 5, 3) := by decide +kernel
theorem dX6_put_13 : decode cX6_put 13 = .ok (.iconst 1, 1) := by decide +kernel
theorem dX6_put_14 : decode cX6_put 14 = .ok (.ireturn, 1) := by decide +kernel
theorem dX6_put_15 : decode cX6_put 15 = .ok (.aload_n 0, 1) := by decide +kernel
theorem dX6_put_16 : decode cX6_put 16 = .ok (.invokevirtual 33, 3) := by decide +kernel
theorem dX6_put_19 : decode cX6_put 19 = .ok (.bipush 120, 2) := by decide +kernel
theorem dX6_put_21 : decode cX6_put 21 = .ok (.if_icmp .lt 5, 3) := by decide +kernel
theorem dX6_put_24 : decode cX6_put 24 = .ok (.iconst 0, 1) := by decide +kernel
theorem dX6_put_25 : decode cX6_put 25 = .ok (.ireturn, 1) := by decide +kernel
theorem dX6_put_26 : decode cX6_put 26 = .ok (.aload_n 1, 1) := by decide +kernel
theorem dX6_put_27 : decode cX6_put 27 = .ok (.iload_n 2, 1) := by decide +kernel
theorem dX6_put_28 : decode cX6_put 28 = .ok (.invokevirtual 37, 3) := by decide +kernel
theorem dX6_put_31 : decode cX6_put 31 = .ok (.iconst 1, 1) := by decide +kernel
theorem dX6_put_32 : decode cX6_put 32 = .ok (.ireturn, 1) := by decide +kernel
theorem dX6_drop_0 : decode cX6_drop 0 = .ok (.aload_n 0, 1) := by decide +kernel
theorem dX6_drop_1 : decode cX6_drop 1 = .ok (.getfield 11, 3) := by decide +kernel
theorem dX6_drop_4 : decode cX6_drop 4 = .ok (.iload_n 1, 1) := by decide +kernel
theorem dX6_drop_5 : decode cX6_drop 5 = .ok (.aaload, 1) := by decide +kernel
theorem dX6_drop_6 : decode cX6_drop 6 = .ok (.iconst 0, 1) := by decide +kernel
theorem dX6_drop_7 : decode cX6_drop 7 = .ok (.putfield 26, 3) := by decide +kernel
theorem dX6_drop_10 : decode cX6_drop 10 = .ok (.aload_n 0, 1) := by decide +kernel
theorem dX6_drop_11 : decode cX6_drop 11 = .ok (.getfield 11, 3) := by decide +kernel
theorem dX6_drop_14 : decode cX6_drop 14 = .ok (.iload_n 1, 1) := by decide +kernel
theorem dX6_drop_15 : decode cX6_drop 15 = .ok (.aaload, 1) := by decide +kernel
theorem dX6_drop_16 : decode cX6_drop 16 = .ok (.iload_n 1, 1) := by decide +kernel
theorem dX6_drop_17 : decode cX6_drop 17 = .ok (.ifCond .ne 7, 3) := by decide +kernel
theorem dX6_drop_20 : decode cX6_drop 20 = .ok (.iconst 1, 1) := by decide +kernel
theorem dX6_drop_21 : decode cX6_drop 21 = .ok (.goto 4, 3) := by decide +kernel
theorem dX6_drop_24 : decode cX6_drop 24 = .ok (.iconst 0, 1) := by decide +kernel
theorem dX6_drop_25 : decode cX6_drop 25 = .ok (.putfield 22, 3) := by decide +kernel
theorem dX6_drop_28 : decode cX6_drop 28 = .ok (.return_, 1) := by decide +kernel
theorem dX6_makeBlank_0 : decode cX6_makeBlank 0 = .ok (.aload_n 0, 1) := by decide +kernel
theorem dX6_makeBlank_1 : decode cX6_makeBlank 1 = .ok (.getfield 17, 3) := by decide +kernel
theorem dX6_makeBlank_4 : decode cX6_makeBlank 4 = .ok (.bipush 60, 2) := by decide +kernel
theorem dX6_makeBlank_6 : decode cX6_makeBlank 6 = .ok (.if_icmp .lt 5, 3) := by decide +kernel
theorem dX6_makeBlank_9 : decode cX6_makeBlank 9 = .ok (.iconst (-1), 1) := by decide +kernel
theorem dX6_makeBlank_10 : decode cX6_makeBlank 10 = .ok (.ireturn, 1) := by decide +kernel
theorem dX6_makeBlank_11 : decode cX6_makeBlank 11 = .ok (.aload_n 0, 1) := by decide +kernel
theorem dX6_makeBlank_12 : decode cX6_makeBlank 12 = .ok (.dup, 1) := by decide +kernel
theorem dX6_makeBlank_13 : decode cX6_makeBlank 13 = .ok (.getfield 17, 3) := by decide +kernel
theorem dX6_makeBlank_16 : decode cX6_makeBlank 16 = .ok (.iconst 1, 1) := by decide +kernel
theorem dX6_makeBlank_17 : decode cX6_makeBlank 17 = .ok (.iadd, 1) := by decide +kernel
theorem dX6_makeBlank_18 : decode cX6_makeBlank 18 = .ok (.putfield 17, 3) := by decide +kernel
theorem dX6_makeBlank_21 : decode cX6_makeBlank 21 = .ok (.bipush 100, 2) := by decide +kernel
theorem dX6_makeBlank_23 : decode cX6_makeBlank 23 = .ok (.aload_n 0, 1) := by decide +kernel
theorem dX6_makeBlank_24 : decode cX6_makeBlank 24 = .ok (.getfield 17, 3) := by decide +kernel
theorem dX6_makeBlank_27 : decode cX6_makeBlank 27 = .ok (.iadd, 1) := by decide +kernel
theorem dX6_makeBlank_28 : decode cX6_makeBlank 28 = .ok (.iconst 1, 1) := by decide +kernel
theorem dX6_makeBlank_29 : decode cX6_makeBlank 29 = .ok (.isub, 1) := by decide +kernel
theorem dX6_makeBlank_30 : decode cX6_makeBlank 30 = .ok (.ireturn, 1) := by decide +kernel
theorem dX6_become_0 : decode cX6_become 0 = .ok (.iconst 0, 1) := by decide +kernel
theorem dX6_become_1 : decode cX6_become 1 = .ok (.istore_n 2, 1) := by decide +kernel
theorem dX6_become_2 : decode cX6_become 2 = .ok (.iload_n 2, 1) := by decide +kernel
theorem dX6_become_3 : decode cX6_become 3 = .ok (.bipush 7, 2) := by decide +kernel
theorem dX6_become_5 : decode cX6_become 5 = .ok (.if_icmp .ge 24, 3) := by decide +kernel
theorem dX6_become_8 : decode cX6_become 8 = .ok (.aload_n 0, 1) := by decide +kernel
theorem dX6_become_9 : decode cX6_become 9 = .ok (.getfield 11, 3) := by decide +kernel
theorem dX6_become_12 : decode cX6_become 12 = .ok (.iload_n 2, 1) := by decide +kernel
theorem dX6_become_13 : decode cX6_become 13 = .ok (.aaload, 1) := by decide +kernel
theorem dX6_become_14 : decode cX6_become 14 = .ok (.aload_n 1, 1) := by decide +kernel
theorem dX6_become_15 : decode cX6_become 15 = .ok (.getfield 11, 3) := by decide +kernel
theorem dX6_become_18 : decode cX6_become 18 = .ok (.iload_n 2, 1) := by decide +kernel
theorem dX6_become_19 : decode cX6_become 19 = .ok (.aaload, 1) := by decide +kernel
theorem dX6_become_20 : decode cX6_become 20 = .ok (.invokevirtual 41, 3) := by decide +kernel
theorem dX6_become_23 : decode cX6_become 23 = .ok (.iinc 2 1, 3) := by decide +kernel
theorem dX6_become_26 : decode cX6_become 26 = .ok (.goto (-24), 3) := by decide +kernel
theorem dX6_become_29 : decode cX6_become 29 = .ok (.aload_n 0, 1) := by decide +kernel
theorem dX6_become_30 : decode cX6_become 30 = .ok (.aload_n 1, 1) := by decide +kernel
theorem dX6_become_31 : decode cX6_become 31 = .ok (.getfield 17, 3) := by decide +kernel
theorem dX6_become_34 : decode cX6_become 34 = .ok (.putfield 17, 3) := by decide +kernel
theorem dX6_become_37 : decode cX6_become 37 = .ok (.return_, 1) := by decide +kernel
theorem dX7_init_0 : decode cX7_init 0 = .ok (.aload_n 0, 1) := by decide +kernel
theorem dX7_init_1 : decode cX7_init 1 = .ok (.invokespecial 3, 3) := by decide +kernel
theorem dX7_init_4 : decode cX7_init 4 = .ok (.aload_n 0, 1) := by decide +kernel
theorem dX7_init_5 : decode cX7_init 5 = .ok (.new 9, 3) := by decide +kernel
theorem dX7_init_8 : decode cX7_init 8 = .ok (.dup, 1) := by decide +kernel
theorem dX7_init_9 : decode cX7_init 9 = .ok (.invokespecial 11, 3) := by decide +kernel
theorem dX7_init_12 : decode cX7_init 12 = .ok (.putfield 12, 3) := by decide +kernel
theorem dX7_init_15 : decode cX7_init 15 = .ok (.aload_n 0, 1) := by decide +kernel
theorem dX7_init_16 : decode cX7_init 16 = .ok (.iconst 4, 1) := by decide +kernel
theorem dX7_init_17 : decode cX7_init 17 = .ok (.anewarray 18, 3) := by decide +kernel
theorem dX7_init_20 : decode cX7_init 20 = .ok (.putfield 20, 3) := by decide +kernel
theorem dX7_init_23 : decode cX7_init 23 = .ok (.aload_n 0, 1) := by decide +kernel
theorem dX7_init_24 : decode cX7_init 24 = .ok (.new 24, 3) := by decide +kernel
theorem dX7_init_27 : decode cX7_init 27 = .ok (.dup, 1) := by decide +kernel
theorem dX7_init_28 : decode cX7_init 28 = .ok (.invokespecial 26, 3) := by decide +kernel
theorem dX7_init_31 : decode cX7_init 31 = .ok (.putfield 27, 3) := by decide +kernel
theorem dX7_init_34 : decode cX7_init 34 = .ok (.aload_n 0, 1) := by decide +kernel
theorem dX7_init_35 : decode cX7_init 35 = .ok (.iconst 4, 1) := by decide +kernel
theorem dX7_init_36 : decode cX7_init 36 = .ok (.newarray .int, 2) := by decide +kernel
theorem dX7_init_38 : decode cX7_init 38 = .ok (.putfield 31, 3) := by decide +kernel
theorem dX7_init_41 : decode cX7_init 41 = .ok (.aload_n 0, 1) := by decide +kernel
theorem dX7_init_42 : decode cX7_init 42 = .ok (.iconst 0, 1) := by decide +kernel
theorem dX7_init_43 : decode cX7_init 43 = .ok (.putfield 35, 3) := by decide +kernel
theorem dX7_init_46 : decode cX7_init 46 = .ok (.iconst 0, 1) := by decide +kernel
theorem dX7_init_47 : decode cX7_init 47 = .ok (.istore_n 1, 1) := by decide +kernel
theorem dX7_init_48 : decode cX7_init 48 = .ok (.iload_n 1, 1) := by decide +kernel
theorem dX7_init_49 : decode cX7_init 49 = .ok (.iconst 4, 1) := by decide +kernel
theorem dX7_init_50 : decode cX7_init 50 = .ok (.if_icmp .ge 22, 3) := by decide +kernel
theorem dX7_init_53 : decode cX7_init 53 = .ok (.aload_n 0, 1) := by decide +kernel
theorem dX7_init_54 : decode cX7_init 54 = .ok (.getfield 20, 3) := by decide +kernel
theorem dX7_init_57 : decode cX7_init 57 = .ok (.iload_n 1, 1) := by decide +kernel
theorem dX7_init_58 : decode cX7_init 58 = .ok (.new 18, 3) := by decide +kernel
theorem dX7_init_61 : decode cX7_init 61 = .ok (.dup, 1) := by decide +kernel
theorem dX7_init_62 : decode cX7_init 62 = .ok (.invokespecial 39, 3) := by decide +kernel
theorem dX7_init_65 : decode cX7_init 65 = .ok (.aastore, 1) := by decide +kernel
theorem dX7_init_66 : decode cX7_init 66 = .ok (.iinc 1 1, 3) := by decide +kernel
theorem dX7_init_69 : decode cX7_init 69 = .ok (.goto (-21), 3) := by decide +kernel
theorem dX7_init_72 : decode cX7_init 72 = .ok (.return_, 1) := by decide +kernel
theorem dX7_perform_0 : decode cX7_perform 0 = .ok (.aload_n 1, 1) := by decide +kernel
theorem dX7_perform_1 : decode cX7_perform 1 = .ok (.getfield 40, 3) := by decide +kernel
theorem dX7_perform_4 : decode cX7_perform 4 = .ok (.tableswitch 68 3 9 #[44, 50, 44, 56, 56, 56, 62], 44) := by decide +kernel
theorem dX7_perform_48 : decode cX7_perform 48 = .ok (.aload_n 0, 1) := by decide +kernel
theorem dX7_perform_49 : decode cX7_perform 49 = .ok (.aload_n 1, 1) := by decide +kernel
theorem dX7_perform_50 : decode cX7_perform 50 = .ok (.invokevirtual 45, 3) := by decide +kernel
theorem dX7_perform_53 : decode cX7_perform 53 = .ok (.ireturn, 1) := by decide +kernel
theorem dX7_perform_54 : decode cX7_perform 54 = .ok (.aload_n 0, 1) := by decide +kernel
theorem dX7_perform_55 : decode cX7_perform 55 = .ok (.aload_n 1, 1) := by decide +kernel
theorem dX7_perform_56 : decode cX7_perform 56 = .ok (.invokevirtual 49, 3) := by decide +kernel
theorem dX7_perform_59 : decode cX7_perform 59 = .ok (.ireturn, 1) := by decide +kernel
theorem dX7_perform_60 : decode cX7_perform 60 = .ok (.aload_n 0, 1) := by decide +kernel
theorem dX7_perform_61 : decode cX7_perform 61 = .ok (.aload_n 1, 1) := by decide +kernel
theorem dX7_perform_62 : decode cX7_perform 62 = .ok (.invokevirtual 52, 3) := by decide +kernel
theorem dX7_perform_65 : decode cX7_perform 65 = .ok (.ireturn, 1) := by decide +kernel
theorem dX7_perform_66 : decode cX7_perform 66 = .ok (.aload_n 0, 1) := by decide +kernel
theorem dX7_perform_67 : decode cX7_perform 67 = .ok (.aload_n 1, 1) := by decide +kernel
theorem dX7_perform_68 : decode cX7_perform 68 = .ok (.invokevirtual 55, 3) := by decide +kernel
theorem dX7_perform_71 : decode cX7_perform 71 = .ok (.ireturn, 1) := by decide +kernel
theorem dX7_perform_72 : decode cX7_perform 72 = .ok (.aload_n 0, 1) := by decide +kernel
theorem dX7_perform_73 : decode cX7_perform 73 = .ok (.aload_n 1, 1) := by decide +kernel
theorem dX7_perform_74 : decode cX7_perform 74 = .ok (.invokevirtual 58, 3) := by decide +kernel
theorem dX7_perform_77 : decode cX7_perform 77 = .ok (.ireturn, 1) := by decide +kernel
theorem dX7_takeAllFacts_0 : decode cX7_takeAllFacts 0 = .ok (.aload_n 1, 1) := by decide +kernel
theorem dX7_takeAllFacts_1 : decode cX7_takeAllFacts 1 = .ok (.getfield 61, 3) := by decide +kernel
theorem dX7_takeAllFacts_4 : decode cX7_takeAllFacts 4 = .ok (.invokestatic 64, 3) := by decide +kernel
theorem dX7_takeAllFacts_7 : decode cX7_takeAllFacts 7 = .ok (.istore_n 2, 1) := by decide +kernel
theorem dX7_takeAllFacts_8 : decode cX7_takeAllFacts 8 = .ok (.iload_n 2, 1) := by decide +kernel
theorem dX7_takeAllFacts_9 : decode cX7_takeAllFacts 9 = .ok (.ifCond .eq 23, 3) := by decide +kernel
theorem dX7_takeAllFacts_12 : decode cX7_takeAllFacts 12 = .ok (.aload_n 0, 1) := by decide +kernel
theorem dX7_takeAllFacts_13 : decode cX7_takeAllFacts 13 = .ok (.getfield 12, 3) := by decide +kernel
theorem dX7_takeAllFacts_16 : decode cX7_takeAllFacts 16 = .ok (.getfield 68, 3) := by decide +kernel
theorem dX7_takeAllFacts_19 : decode cX7_takeAllFacts 19 = .ok (.aload_n 1, 1) := by decide +kernel
theorem dX7_takeAllFacts_20 : decode cX7_takeAllFacts 20 = .ok (.getfield 61, 3) := by decide +kernel
theorem dX7_takeAllFacts_23 : decode cX7_takeAllFacts 23 = .ok (.aaload, 1) := by decide +kernel
theorem dX7_takeAllFacts_24 : decode cX7_takeAllFacts 24 = .ok (.getfield 72, 3) := by decide +kernel
theorem dX7_takeAllFacts_27 : decode cX7_takeAllFacts 27 = .ok (.ifCond .ne 5, 3) := by decide +kernel
theorem dX7_takeAllFacts_30 : decode cX7_takeAllFacts 30 = .ok (.iconst 2, 1) := by decide +kernel
theorem dX7_takeAllFacts_31 : decode cX7_takeAllFacts 31 = .ok (.ireturn, 1) := by decide +kernel
theorem dX7_takeAllFacts_32 : decode cX7_takeAllFacts 32 = .ok (.iload_n 2, 1) := by decide +kernel
theorem dX7_takeAllFacts_33 : decode cX7_takeAllFacts 33 = .ok (.ifCond .eq 10, 3) := by decide +kernel
theorem dX7_takeAllFacts_36 : decode cX7_takeAllFacts 36 = .ok (.aload_n 1, 1) := by decide +kernel
theorem dX7_takeAllFacts_37 : decode cX7_takeAllFacts 37 = .ok (.getfield 61, 3) := by decide +kernel
theorem dX7_takeAllFacts_40 : decode cX7_takeAllFacts 40 = .ok (.goto 16, 3) := by decide +kernel
theorem dX7_takeAllFacts_43 : decode cX7_takeAllFacts 43 = .ok (.aload_n 1, 1) := by decide +kernel
theorem dX7_takeAllFacts_44 : decode cX7_takeAllFacts 44 = .ok (.getfield 61, 3) := by decide +kernel
theorem dX7_takeAllFacts_47 : decode cX7_takeAllFacts 47 = .ok (.iconst (-1), 1) := by decide +kernel
theorem dX7_takeAllFacts_48 : decode cX7_takeAllFacts 48 = .ok (.if_icmp .ne 7, 3) := by decide +kernel
theorem dX7_takeAllFacts_51 : decode cX7_takeAllFacts 51 = .ok (.iconst 0, 1) := by decide +kernel
theorem dX7_takeAllFacts_52 : decode cX7_takeAllFacts 52 = .ok (.goto 4, 3) := by decide +kernel
theorem dX7_takeAllFacts_55 : decode cX7_takeAllFacts 55 = .ok (.iconst 1, 1) := by decide +kernel
theorem dX7_takeAllFacts_56 : decode cX7_takeAllFacts 56 = .ok (.istore_n 3, 1) := by decide +kernel
theorem dX7_takeAllFacts_57 : decode cX7_takeAllFacts 57 = .ok (.iload_n 2, 1) := by decide +kernel
theorem dX7_takeAllFacts_58 : decode cX7_takeAllFacts 58 = .ok (.ifCond .eq 10, 3) := by decide +kernel
theorem dX7_takeAllFacts_61 : decode cX7_takeAllFacts 61 = .ok (.aload_n 1, 1) := by decide +kernel
theorem dX7_takeAllFacts_62 : decode cX7_takeAllFacts 62 = .ok (.getfield 61, 3) := by decide +kernel
theorem dX7_takeAllFacts_65 : decode cX7_takeAllFacts 65 = .ok (.goto 5, 3) := by decide +kernel
theorem dX7_takeAllFacts_68 : decode cX7_takeAllFacts 68 = .ok (.bipush 6, 2) := by decide +kernel
theorem dX7_takeAllFacts_70 : decode cX7_takeAllFacts 70 = .ok (.istore 4, 2) := by decide +kernel
theorem dX7_takeAllFacts_72 : decode cX7_takeAllFacts 72 = .ok (.iload_n 3, 1) := by decide +kernel
theorem dX7_takeAllFacts_73 : decode cX7_takeAllFacts 73 = .ok (.istore 5, 2) := by decide +kernel
theorem dX7_takeAllFacts_75 : decode cX7_takeAllFacts 75 = .ok (.iload 5, 2) := by decide +kernel
theorem dX7_takeAllFacts_77 : decode cX7_takeAllFacts 77 = .ok (.iload 4, 2) := by decide +kernel
theorem dX7_takeAllFacts_79 : decode cX7_takeAllFacts 79 = .ok (.if_icmp .gt 43, 3) := by decide +kernel
theorem dX7_takeAllFacts_82 : decode cX7_takeAllFacts 82 = .ok (.aload_n 1, 1) := by decide +kernel
theorem dX7_takeAllFacts_83 : decode cX7_takeAllFacts 83 = .ok (.getfield 40, 3) := by decide +kernel
theorem dX7_takeAllFacts_86 : decode cX7_takeAllFacts 86 = .ok (.iconst 5, 1) := by decide +kernel
theorem dX7_takeAllFacts_87 : decode cX7_takeAllFacts 87 = .ok (.if_icmp .ne 15, 3) := by decide +kernel
theorem dX7_takeAllFacts_90 : decode cX7_takeAllFacts 90 = .ok (.aload_n 0, 1) := by decide +kernel
theorem dX7_takeAllFacts_91 : decode cX7_takeAllFacts 91 = .ok (.getfield 12, 3) := by decide +kernel
theorem dX7_takeAllFacts_94 : decode cX7_takeAllFacts 94 = .ok (.iload 5, 2) := by decide +kernel
theorem dX7_takeAllFacts_96 : decode cX7_takeAllFacts 96 = .ok (.invokevirtual 78, 3) := by decide +kernel
theorem dX7_takeAllFacts_99 : decode cX7_takeAllFacts 99 = .ok (.goto 17, 3) := by decide +kernel
theorem dX7_takeAllFacts_102 : decode cX7_takeAllFacts 102 = .ok (.aload_n 0, 1) := by decide +kernel
theorem dX7_takeAllFacts_103 : decode cX7_takeAllFacts 103 = .ok (.getfield 12, 3) := by decide +kernel
theorem dX7_takeAllFacts_106 : decode cX7_takeAllFacts 106 = .ok (.getfield 68, 3) := by decide +kernel
theorem dX7_takeAllFacts_109 : decode cX7_takeAllFacts 109 = .ok (.iload 5, 2) := by decide +kernel
theorem dX7_takeAllFacts_111 : decode cX7_takeAllFacts 111 = .ok (.aaload, 1) := by decide +kernel
theorem dX7_takeAllFacts_112 : decode cX7_takeAllFacts 112 = .ok (.iconst 0, 1) := by decide +kernel
theorem dX7_takeAllFacts_113 : decode cX7_takeAllFacts 113 = .ok (.putfield 82, 3) := by decide +kernel
theorem dX7_takeAllFacts_116 : decode cX7_takeAllFacts 116 = .ok (.iinc 5 1, 3) := by decide +kernel
theorem dX7_takeAllFacts_119 : decode cX7_takeAllFacts 119 = .ok (.goto (-44), 3) := by decide +kernel
theorem dX7_takeAllFacts_122 : decode cX7_takeAllFacts 122 = .ok (.iconst 0, 1) := by decide +kernel
theorem dX7_takeAllFacts_123 : decode cX7_takeAllFacts 123 = .ok (.ireturn, 1) := by decide +kernel
theorem dX7_makeGraph_0 : decode cX7_makeGraph 0 = .ok (.aload_n 0, 1) := by decide +kernel
theorem dX7_makeGraph_1 : decode cX7_makeGraph 1 = .ok (.getfield 12, 3) := by decide +kernel
theorem dX7_makeGraph_4 : decode cX7_makeGraph 4 = .ok (.getfield 68, 3) := by decide +kernel
theorem dX7_makeGraph_7 : decode cX7_makeGraph 7 = .ok (.aload_n 1, 1) := by decide +kernel
theorem dX7_makeGraph_8 : decode cX7_makeGraph 8 = .ok (.getfield 61, 3) := by decide +kernel
theorem dX7_makeGraph_11 : decode cX7_makeGraph 11 = .ok (.aaload, 1) := by decide +kernel
theorem dX7_makeGraph_12 : decode cX7_makeGraph 12 = .ok (.astore_n 2, 1) := by decide +kernel
theorem dX7_makeGraph_13 : decode cX7_makeGraph 13 = .ok (.aload_n 2, 1) := by decide +kernel
theorem dX7_makeGraph_14 : decode cX7_makeGraph 14 = .ok (.getfield 72, 3) := by decide +kernel
theorem dX7_makeGraph_17 : decode cX7_makeGraph 17 = .ok (.ifCond .eq 5, 3) := by decide +kernel
theorem dX7_makeGraph_20 : decode cX7_makeGraph 20 = .ok (.iconst 1, 1) := by decide +kernel
theorem dX7_makeGraph_21 : decode cX7_makeGraph 21 = .ok (.ireturn, 1) := by decide +kernel
theorem dX7_makeGraph_22 : decode cX7_makeGraph 22 = .ok (.aload_n 2, 1) := by decide +kernel
theorem dX7_makeGraph_23 : decode cX7_makeGraph 23 = .ok (.iconst 1, 1) := by decide +kernel
theorem dX7_makeGraph_24 : decode cX7_makeGraph 24 = .ok (.putfield 72, 3) := by decide +kernel
theorem dX7_makeGraph_27 : decode cX7_makeGraph 27 = .ok (.iconst 0, 1) := by decide +kernel
theorem dX7_makeGraph_28 : decode cX7_makeGraph 28 = .ok (.ireturn, 1) := by decide +kernel
theorem dX7_bringGraph_0 : decode cX7_bringGraph 0 = .ok (.aload_n 0, 1) := by decide +kernel
theorem dX7_bringGraph_1 : decode cX7_bringGraph 1 = .ok (.getfield 12, 3) := by decide +kernel
theorem dX7_bringGraph_4 : decode cX7_bringGraph 4 = .ok (.getfield 68, 3) := by decide +kernel
theorem dX7_bringGraph_7 : decode cX7_bringGraph 7 = .ok (.aload_n 1, 1) := by decide +kernel
theorem dX7_bringGraph_8 : decode cX7_bringGraph 8 = .ok (.getfield 85, 3) := by decide +kernel
theorem dX7_bringGraph_11 : decode cX7_bringGraph 11 = .ok (.aaload, 1) := by decide +kernel
theorem dX7_bringGraph_12 : decode cX7_bringGraph 12 = .ok (.astore_n 2, 1) := by decide +kernel
theorem dX7_bringGraph_13 : decode cX7_bringGraph 13 = .ok (.aload_n 0, 1) := by decide +kernel
theorem dX7_bringGraph_14 : decode cX7_bringGraph 14 = .ok (.getfield 12, 3) := by decide +kernel
theorem dX7_bringGraph_17 : decode cX7_bringGraph 17 = .ok (.getfield 68, 3) := by decide +kernel
theorem dX7_bringGraph_20 : decode cX7_bringGraph 20 = .ok (.aload_n 1, 1) := by decide +kernel
theorem dX7_bringGraph_21 : decode cX7_bringGraph 21 = .ok (.getfield 61, 3) := by decide +kernel
theorem dX7_bringGraph_24 : decode cX7_bringGraph 24 = .ok (.aaload, 1) := by decide +kernel
theorem dX7_bringGraph_25 : decode cX7_bringGraph 25 = .ok (.astore_n 3, 1) := by decide +kernel
theorem dX7_bringGraph_26 : decode cX7_bringGraph 26 = .ok (.aload_n 2, 1) := by decide +kernel
theorem dX7_bringGraph_27 : decode cX7_bringGraph 27 = .ok (.getfield 72, 3) := by decide +kernel
theorem dX7_bringGraph_30 : decode cX7_bringGraph 30 = .ok (.ifCond .ne 5, 3) := by decide +kernel
theorem dX7_bringGraph_33 : decode cX7_bringGraph 33 = .ok (.iconst 2, 1) := by decide +kernel
theorem dX7_bringGraph_34 : decode cX7_bringGraph 34 = .ok (.ireturn, 1) := by decide +kernel
theorem dX7_bringGraph_35 : decode cX7_bringGraph 35 = .ok (.aload_n 1, 1) := by decide +kernel
theorem dX7_bringGraph_36 : decode cX7_bringGraph 36 = .ok (.getfield 85, 3) := by decide +kernel
theorem dX7_bringGraph_39 : decode cX7_bringGraph 39 = .ok (.aload_n 1, 1) := by decide +kernel
theorem dX7_bringGraph_40 : decode cX7_bringGraph 40 = .ok (.getfield 61, 3) := by decide +kernel
theorem dX7_bringGraph_43 : decode cX7_bringGraph 43 = .ok (.if_icmp .ne 5, 3) := by decide +kernel
theorem dX7_bringGraph_46 : decode cX7_bringGraph 46 = .ok (.iconst 0, 1) := by decide +kernel
theorem dX7_bringGraph_47 : decode cX7_bringGraph 47 = .ok (.ireturn, 1) := by decide +kernel
theorem dX7_bringGraph_48 : decode cX7_bringGraph 48 = .ok (.aload_n 1, 1) := by decide +kernel
theorem dX7_bringGraph_49 : decode cX7_bringGraph 49 = .ok (.getfield 40, 3) := by decide +kernel
theorem dX7_bringGraph_52 : decode cX7_bringGraph 52 = .ok (.bipush 8, 2) := by decide +kernel
theorem dX7_bringGraph_54 : decode cX7_bringGraph 54 = .ok (.if_icmp .ne 10, 3) := by decide +kernel
theorem dX7_bringGraph_57 : decode cX7_bringGraph 57 = .ok (.aload_n 0, 1) := by decide +kernel
theorem dX7_bringGraph_58 : decode cX7_bringGraph 58 = .ok (.aload_n 2, 1) := by decide +kernel
theorem dX7_bringGraph_59 : decode cX7_bringGraph 59 = .ok (.aload_n 3, 1) := by decide +kernel
theorem dX7_bringGraph_60 : decode cX7_bringGraph 60 = .ok (.invokevirtual 88, 3) := by decide +kernel
theorem dX7_bringGraph_63 : decode cX7_bringGraph 63 = .ok (.ireturn, 1) := by decide +kernel
theorem dX7_bringGraph_64 : decode cX7_bringGraph 64 = .ok (.aload_n 3, 1) := by decide +kernel
theorem dX7_bringGraph_65 : decode cX7_bringGraph 65 = .ok (.iconst 0, 1) := by decide +kernel
theorem dX7_bringGraph_66 : decode cX7_bringGraph 66 = .ok (.putfield 82, 3) := by decide +kernel
theorem dX7_bringGraph_69 : decode cX7_bringGraph 69 = .ok (.aload_n 1, 1) := by decide +kernel
theorem dX7_bringGraph_70 : decode cX7_bringGraph 70 = .ok (.getfield 40, 3) := by decide +kernel
theorem dX7_bringGraph_73 : decode cX7_bringGraph 73 = .ok (.bipush 6, 2) := by decide +kernel
theorem dX7_bringGraph_75 : decode cX7_bringGraph 75 = .ok (.if_icmp .ne 22, 3) := by decide +kernel
theorem dX7_bringGraph_78 : decode cX7_bringGraph 78 = .ok (.aload_n 0, 1) := by decide +kernel
theorem dX7_bringGraph_79 : decode cX7_bringGraph 79 = .ok (.getfield 12, 3) := by decide +kernel
theorem dX7_bringGraph_82 : decode cX7_bringGraph 82 = .ok (.invokevirtual 92, 3) := by decide +kernel
theorem dX7_bringGraph_85 : decode cX7_bringGraph 85 = .ok (.aload_n 2, 1) := by decide +kernel
theorem dX7_bringGraph_86 : decode cX7_bringGraph 86 = .ok (.getfield 82, 3) := by decide +kernel
theorem dX7_bringGraph_89 : decode cX7_bringGraph 89 = .ok (.iadd, 1) := by decide +kernel
theorem dX7_bringGraph_90 : decode cX7_bringGraph 90 = .ok (.bipush 120, 2) := by decide +kernel
theorem dX7_bringGraph_92 : decode cX7_bringGraph 92 = .ok (.if_icmp .le 5, 3) := by decide +kernel
theorem dX7_bringGraph_95 : decode cX7_bringGraph 95 = .ok (.iconst 4, 1) := by decide +kernel
theorem dX7_bringGraph_96 : decode cX7_bringGraph 96 = .ok (.ireturn, 1) := by decide +kernel
theorem dX7_bringGraph_97 : decode cX7_bringGraph 97 = .ok (.aload_n 3, 1) := by decide +kernel
theorem dX7_bringGraph_98 : decode cX7_bringGraph 98 = .ok (.aload_n 2, 1) := by decide +kernel
theorem dX7_bringGraph_99 : decode cX7_bringGraph 99 = .ok (.invokevirtual 96, 3) := by decide +kernel
theorem dX7_bringGraph_102 : decode cX7_bringGraph 102 = .ok (.aload_n 1, 1) := by decide +kernel
theorem dX7_bringGraph_103 : decode cX7_bringGraph 103 = .ok (.getfield 40, 3) := by decide +kernel
theorem dX7_bringGraph_106 : decode cX7_bringGraph 106 = .ok (.bipush 7, 2) := by decide +kernel
theorem dX7_bringGraph_108 : decode cX7_bringGraph 108 = .ok (.if_icmp .ne 14, 3) := by decide +kernel
theorem dX7_bringGraph_111 : decode cX7_bringGraph 111 = .ok (.aload_n 0, 1) := by decide +kernel
theorem dX7_bringGraph_112 : decode cX7_bringGraph 112 = .ok (.getfield 12, 3) := by decide +kernel
theorem dX7_bringGraph_115 : decode cX7_bringGraph 115 = .ok (.aload_n 1, 1) := by decide +kernel
theorem dX7_bringGraph_116 : decode cX7_bringGraph 116 = .ok (.getfield 85, 3) := by decide +kernel
theorem dX7_bringGraph_119 : decode cX7_bringGraph 119 = .ok (.invokevirtual 78, 3) := by decide +kernel
theorem dX7_bringGraph_122 : decode cX7_bringGraph 122 = .ok (.iconst 0, 1) := by decide +kernel
theorem dX7_bringGraph_123 : decode cX7_bringGraph 123 = .ok (.ireturn, 1) := by decide +kernel
theorem dX7_addGraph_0 : decode cX7_addGraph 0 = .ok (.aload_n 2, 1) := by decide +kernel
theorem dX7_addGraph_1 : decode cX7_addGraph 1 = .ok (.iconst 1, 1) := by decide +kernel
theorem dX7_addGraph_2 : decode cX7_addGraph 2 = .ok (.putfield 72, 3) := by decide +kernel
theorem dX7_addGraph_5 : decode cX7_addGraph 5 = .ok (.iconst 0, 1) := by decide +kernel
theorem dX7_addGraph_6 : decode cX7_addGraph 6 = .ok (.istore_n 3, 1) := by decide +kernel
theorem dX7_addGraph_7 : decode cX7_addGraph 7 = .ok (.iload_n 3, 1) := by decide +kernel
theorem dX7_addGraph_8 : decode cX7_addGraph 8 = .ok (.aload_n 1, 1) := by decide +kernel
theorem dX7_addGraph_9 : decode cX7_addGraph 9 = .ok (.getfield 82, 3) := by decide +kernel
theorem dX7_addGraph_12 : decode cX7_addGraph 12 = .ok (.if_icmp .ge 28, 3) := by decide +kernel
theorem dX7_addGraph_15 : decode cX7_addGraph 15 = .ok (.aload_n 0, 1) := by decide +kernel
theorem dX7_addGraph_16 : decode cX7_addGraph 16 = .ok (.getfield 12, 3) := by decide +kernel
theorem dX7_addGraph_19 : decode cX7_addGraph 19 = .ok (.aload_n 2, 1) := by decide +kernel
theorem dX7_addGraph_20 : decode cX7_addGraph 20 = .ok (.aload_n 1, 1) := by decide +kernel
theorem dX7_addGraph_21 : decode cX7_addGraph 21 = .ok (.getfield 100, 3) := by decide +kernel
theorem dX7_addGraph_24 : decode cX7_addGraph 24 = .ok (.iload_n 3, 1) := by decide +kernel
theorem dX7_addGraph_25 : decode cX7_addGraph 25 = .ok (.iaload, 1) := by decide +kernel
theorem dX7_addGraph_26 : decode cX7_addGraph 26 = .ok (.invokevirtual 103, 3) := by decide +kernel
theorem dX7_addGraph_29 : decode cX7_addGraph 29 = .ok (.ifCond .ne 5, 3) := by decide +kernel
theorem dX7_addGraph_32 : decode cX7_addGraph 32 = .ok (.iconst 4, 1) := by decide +kernel
theorem dX7_addGraph_33 : decode cX7_addGraph 33 = .ok (.ireturn, 1) := by decide +kernel
theorem dX7_addGraph_34 : decode cX7_addGraph 34 = .ok (.iinc 3 1, 3) := by decide +kernel
theorem dX7_addGraph_37 : decode cX7_addGraph 37 = .ok (.goto (-30), 3) := by decide +kernel
theorem dX7_addGraph_40 : decode cX7_addGraph 40 = .ok (.iconst 0, 1) := by decide +kernel
theorem dX7_addGraph_41 : decode cX7_addGraph 41 = .ok (.ireturn, 1) := by decide +kernel
theorem dX7_readFile_0 : decode cX7_readFile 0 = .ok (.aload_n 0, 1) := by decide +kernel
theorem dX7_readFile_1 : decode cX7_readFile 1 = .ok (.getfield 20, 3) := by decide +kernel
theorem dX7_readFile_4 : decode cX7_readFile 4 = .ok (.aload_n 1, 1) := by decide +kernel
theorem dX7_readFile_5 : decode cX7_readFile 5 = .ok (.getfield 85, 3) := by decide +kernel
theorem dX7_readFile_8 : decode cX7_readFile 8 = .ok (.aaload, 1) := by decide +kernel
theorem dX7_readFile_9 : decode cX7_readFile 9 = .ok (.astore_n 2, 1) := by decide +kernel
theorem dX7_readFile_10 : decode cX7_readFile 10 = .ok (.aload_n 2, 1) := by decide +kernel
theorem dX7_readFile_11 : decode cX7_readFile 11 = .ok (.getfield 107, 3) := by decide +kernel
theorem dX7_readFile_14 : decode cX7_readFile 14 = .ok (.ifCond .eq 5, 3) := by decide +kernel
theorem dX7_readFile_17 : decode cX7_readFile 17 = .ok (.iconst 3, 1) := by decide +kernel
theorem dX7_readFile_18 : decode cX7_readFile 18 = .ok (.ireturn, 1) := by decide +kernel
theorem dX7_readFile_19 : decode cX7_readFile 19 = .ok (.aload_n 0, 1) := by decide +kernel
theorem dX7_readFile_20 : decode cX7_readFile 20 = .ok (.getfield 12, 3) := by decide +kernel
theorem dX7_readFile_23 : decode cX7_readFile 23 = .ok (.getfield 68, 3) := by decide +kernel
theorem dX7_readFile_26 : decode cX7_readFile 26 = .ok (.aload_n 1, 1) := by decide +kernel
theorem dX7_readFile_27 : decode cX7_readFile 27 = .ok (.getfield 61, 3) := by decide +kernel
theorem dX7_readFile_30 : decode cX7_readFile 30 = .ok (.aaload, 1) := by decide +kernel
theorem dX7_readFile_31 : decode cX7_readFile 31 = .ok (.astore_n 3, 1) := by decide +kernel
theorem dX7_readFile_32 : decode cX7_readFile 32 = .ok (.aload_n 3, 1) := by decide +kernel
theorem dX7_readFile_33 : decode cX7_readFile 33 = .ok (.iconst 1, 1) := by decide +kernel
theorem dX7_readFile_34 : decode cX7_readFile 34 = .ok (.putfield 72, 3) := by decide +kernel
theorem dX7_readFile_37 : decode cX7_readFile 37 = .ok (.iconst 0, 1) := by decide +kernel
theorem dX7_readFile_38 : decode cX7_readFile 38 = .ok (.istore 4, 2) := by decide +kernel
theorem dX7_readFile_40 : decode cX7_readFile 40 = .ok (.iload 4, 2) := by decide +kernel
theorem dX7_readFile_42 : decode cX7_readFile 42 = .ok (.aload_n 2, 1) := by decide +kernel
theorem dX7_readFile_43 : decode cX7_readFile 43 = .ok (.getfield 110, 3) := by decide +kernel
theorem dX7_readFile_46 : decode cX7_readFile 46 = .ok (.getfield 114, 3) := by decide +kernel
theorem dX7_readFile_49 : decode cX7_readFile 49 = .ok (.if_icmp .ge 52, 3) := by decide +kernel
theorem dX7_readFile_52 : decode cX7_readFile 52 = .ok (.aload_n 0, 1) := by decide +kernel
theorem dX7_readFile_53 : decode cX7_readFile 53 = .ok (.getfield 12, 3) := by decide +kernel
theorem dX7_readFile_56 : decode cX7_readFile 56 = .ok (.aload_n 3, 1) := by decide +kernel
theorem dX7_readFile_57 : decode cX7_readFile 57 = .ok (.aload_n 2, 1) := by decide +kernel
theorem dX7_readFile_58 : decode cX7_readFile 58 = .ok (.getfield 110, 3) := by decide +kernel
theorem dX7_readFile_61 : decode cX7_readFile 61 = .ok (.iload 4, 2) := by decide +kernel
theorem dX7_readFile_63 : decode cX7_readFile 63 = .ok (.invokevirtual 119, 3) := by decide +kernel
theorem dX7_readFile_66 : decode cX7_readFile 66 = .ok (.aload_n 2, 1) := by decide +kernel
theorem dX7_readFile_67 : decode cX7_readFile 67 = .ok (.getfield 110, 3) := by decide +kernel
theorem dX7_readFile_70 : decode cX7_readFile 70 = .ok (.iload 4, 2) := by decide +kernel
theorem dX7_readFile_72 : decode cX7_readFile 72 = .ok (.invokevirtual 123, 3) := by decide +kernel
theorem dX7_readFile_75 : decode cX7_readFile 75 = .ok (.aload_n 2, 1) := by decide +kernel
theorem dX7_readFile_76 : decode cX7_readFile 76 = .ok (.getfield 110, 3) := by decide +kernel
theorem dX7_readFile_79 : decode cX7_readFile 79 = .ok (.iload 4, 2) := by decide +kernel
theorem dX7_readFile_81 : decode cX7_readFile 81 = .ok (.invokevirtual 126, 3) := by decide +kernel
theorem dX7_readFile_84 : decode cX7_readFile 84 = .ok (.invokestatic 129, 3) := by decide +kernel
theorem dX7_readFile_87 : decode cX7_readFile 87 = .ok (.invokevirtual 103, 3) := by decide +kernel
theorem dX7_readFile_90 : decode cX7_readFile 90 = .ok (.ifCond .ne 5, 3) := by decide +kernel
theorem dX7_readFile_93 : decode cX7_readFile 93 = .ok (.iconst 4, 1) := by decide +kernel
theorem dX7_readFile_94 : decode cX7_readFile 94 = .ok (.ireturn, 1) := by decide +kernel
theorem dX7_readFile_95 : decode cX7_readFile 95 = .ok (.iinc 4 1, 3) := by decide +kernel
theorem dX7_readFile_98 : decode cX7_readFile 98 = .ok (.goto (-58), 3) := by decide +kernel
theorem dX7_readFile_101 : decode cX7_readFile 101 = .ok (.iconst 0, 1) := by decide +kernel
theorem dX7_readFile_102 : decode cX7_readFile 102 = .ok (.ireturn, 1) := by decide +kernel
theorem dX7_rewrite_0 : decode cX7_rewrite 0 = .ok (.aload_n 0, 1) := by decide +kernel
theorem dX7_rewrite_1 : decode cX7_rewrite 1 = .ok (.getfield 27, 3) := by decide +kernel
theorem dX7_rewrite_4 : decode cX7_rewrite 4 = .ok (.aload_n 1, 1) := by decide +kernel
theorem dX7_rewrite_5 : decode cX7_rewrite 5 = .ok (.getfield 133, 3) := by decide +kernel
theorem dX7_rewrite_8 : decode cX7_rewrite 8 = .ok (.aload_n 0, 1) := by decide +kernel
theorem dX7_rewrite_9 : decode cX7_rewrite 9 = .ok (.getfield 12, 3) := by decide +kernel
theorem dX7_rewrite_12 : decode cX7_rewrite 12 = .ok (.getfield 68, 3) := by decide +kernel
theorem dX7_rewrite_15 : decode cX7_rewrite 15 = .ok (.aload_n 1, 1) := by decide +kernel
theorem dX7_rewrite_16 : decode cX7_rewrite 16 = .ok (.getfield 85, 3) := by decide +kernel
theorem dX7_rewrite_19 : decode cX7_rewrite 19 = .ok (.aaload, 1) := by decide +kernel
theorem dX7_rewrite_20 : decode cX7_rewrite 20 = .ok (.invokevirtual 136, 3) := by decide +kernel
theorem dX7_rewrite_23 : decode cX7_rewrite 23 = .ok (.istore_n 2, 1) := by decide +kernel
theorem dX7_rewrite_24 : decode cX7_rewrite 24 = .ok (.aload_n 0, 1) := by decide +kernel
theorem dX7_rewrite_25 : decode cX7_rewrite 25 = .ok (.dup, 1) := by decide +kernel
theorem dX7_rewrite_26 : decode cX7_rewrite 26 = .ok (.getfield 35, 3) := by decide +kernel
theorem dX7_rewrite_29 : decode cX7_rewrite 29 = .ok (.aload_n 0, 1) := by decide +kernel
theorem dX7_rewrite_30 : decode cX7_rewrite 30 = .ok (.getfield 27, 3) := by decide +kernel
theorem dX7_rewrite_33 : decode cX7_rewrite 33 = .ok (.getfield 140, 3) := by decide +kernel
theorem dX7_rewrite_36 : decode cX7_rewrite 36 = .ok (.iadd, 1) := by decide +kernel
theorem dX7_rewrite_37 : decode cX7_rewrite 37 = .ok (.putfield 35, 3) := by decide +kernel
theorem dX7_rewrite_40 : decode cX7_rewrite 40 = .ok (.aload_n 1, 1) := by decide +kernel
theorem dX7_rewrite_41 : decode cX7_rewrite 41 = .ok (.getfield 40, 3) := by decide +kernel
theorem dX7_rewrite_44 : decode cX7_rewrite 44 = .ok (.iconst 2, 1) := by decide +kernel
theorem dX7_rewrite_45 : decode cX7_rewrite 45 = .ok (.if_icmp .ne 14, 3) := by decide +kernel
theorem dX7_rewrite_48 : decode cX7_rewrite 48 = .ok (.aload_n 1, 1) := by decide +kernel
theorem dX7_rewrite_49 : decode cX7_rewrite 49 = .ok (.aload_n 0, 1) := by decide +kernel
theorem dX7_rewrite_50 : decode cX7_rewrite 50 = .ok (.getfield 27, 3) := by decide +kernel
theorem dX7_rewrite_53 : decode cX7_rewrite 53 = .ok (.getfield 141, 3) := by decide +kernel
theorem dX7_rewrite_56 : decode cX7_rewrite 56 = .ok (.putfield 144, 3) := by decide +kernel
theorem dX7_rewrite_59 : decode cX7_rewrite 59 = .ok (.iload_n 2, 1) := by decide +kernel
theorem dX7_rewrite_60 : decode cX7_rewrite 60 = .ok (.ifCond .ne 5, 3) := by decide +kernel
theorem dX7_rewrite_63 : decode cX7_rewrite 63 = .ok (.iconst 5, 1) := by decide +kernel
theorem dX7_rewrite_64 : decode cX7_rewrite 64 = .ok (.ireturn, 1) := by decide +kernel
theorem dX7_rewrite_65 : decode cX7_rewrite 65 = .ok (.iconst 0, 1) := by decide +kernel
theorem dX7_rewrite_66 : decode cX7_rewrite 66 = .ok (.istore_n 3, 1) := by decide +kernel
theorem dX7_rewrite_67 : decode cX7_rewrite 67 = .ok (.iload_n 3, 1) := by decide +kernel
theorem dX7_rewrite_68 : decode cX7_rewrite 68 = .ok (.aload_n 0, 1) := by decide +kernel
theorem dX7_rewrite_69 : decode cX7_rewrite 69 = .ok (.getfield 27, 3) := by decide +kernel
theorem dX7_rewrite_72 : decode cX7_rewrite 72 = .ok (.getfield 141, 3) := by decide +kernel
theorem dX7_rewrite_75 : decode cX7_rewrite 75 = .ok (.if_icmp .ge 15, 3) := by decide +kernel
theorem dX7_rewrite_78 : decode cX7_rewrite 78 = .ok (.aload_n 0, 1) := by decide +kernel
theorem dX7_rewrite_79 : decode cX7_rewrite 79 = .ok (.aload_n 1, 1) := by decide +kernel
theorem dX7_rewrite_80 : decode cX7_rewrite 80 = .ok (.iload_n 3, 1) := by decide +kernel
theorem dX7_rewrite_81 : decode cX7_rewrite 81 = .ok (.invokevirtual 145, 3) := by decide +kernel
theorem dX7_rewrite_84 : decode cX7_rewrite 84 = .ok (.iinc 3 1, 3) := by decide +kernel
theorem dX7_rewrite_87 : decode cX7_rewrite 87 = .ok (.goto (-20), 3) := by decide +kernel
theorem dX7_rewrite_90 : decode cX7_rewrite 90 = .ok (.iconst 0, 1) := by decide +kernel
theorem dX7_rewrite_91 : decode cX7_rewrite 91 = .ok (.istore_n 3, 1) := by decide +kernel
theorem dX7_rewrite_92 : decode cX7_rewrite 92 = .ok (.iload_n 3, 1) := by decide +kernel
theorem dX7_rewrite_93 : decode cX7_rewrite 93 = .ok (.aload_n 0, 1) := by decide +kernel
theorem dX7_rewrite_94 : decode cX7_rewrite 94 = .ok (.getfield 27, 3) := by decide +kernel
theorem dX7_rewrite_97 : decode cX7_rewrite 97 = .ok (.getfield 141, 3) := by decide +kernel
theorem dX7_rewrite_100 : decode cX7_rewrite 100 = .ok (.if_icmp .ge 20, 3) := by decide +kernel
theorem dX7_rewrite_103 : decode cX7_rewrite 103 = .ok (.aload_n 0, 1) := by decide +kernel
theorem dX7_rewrite_104 : decode cX7_rewrite 104 = .ok (.aload_n 1, 1) := by decide +kernel
theorem dX7_rewrite_105 : decode cX7_rewrite 105 = .ok (.iload_n 3, 1) := by decide +kernel
theorem dX7_rewrite_106 : decode cX7_rewrite 106 = .ok (.invokevirtual 149, 3) := by decide +kernel
theorem dX7_rewrite_109 : decode cX7_rewrite 109 = .ok (.ifCond .ne 5, 3) := by decide +kernel
theorem dX7_rewrite_112 : decode cX7_rewrite 112 = .ok (.iconst 4, 1) := by decide +kernel
theorem dX7_rewrite_113 : decode cX7_rewrite 113 = .ok (.ireturn, 1) := by decide +kernel
theorem dX7_rewrite_114 : decode cX7_rewrite 114 = .ok (.iinc 3 1, 3) := by decide +kernel
theorem dX7_rewrite_117 : decode cX7_rewrite 117 = .ok (.goto (-25), 3) := by decide +kernel
theorem dX7_rewrite_120 : decode cX7_rewrite 120 = .ok (.iconst 0, 1) := by decide +kernel
theorem dX7_rewrite_121 : decode cX7_rewrite 121 = .ok (.ireturn, 1) := by decide +kernel
theorem dX7_takeAwayFor_0 : decode cX7_takeAwayFor 0 = .ok (.iconst 0, 1) := by decide +kernel
theorem dX7_takeAwayFor_1 : decode cX7_takeAwayFor 1 = .ok (.istore_n 3, 1) := by decide +kernel
theorem dX7_takeAwayFor_2 : decode cX7_takeAwayFor 2 = .ok (.iload_n 3, 1) := by decide +kernel
theorem dX7_takeAwayFor_3 : decode cX7_takeAwayFor 3 = .ok (.aload_n 1, 1) := by decide +kernel
theorem dX7_takeAwayFor_4 : decode cX7_takeAwayFor 4 = .ok (.getfield 153, 3) := by decide +kernel
theorem dX7_takeAwayFor_7 : decode cX7_takeAwayFor 7 = .ok (.getfield 114, 3) := by decide +kernel
theorem dX7_takeAwayFor_10 : decode cX7_takeAwayFor 10 = .ok (.if_icmp .ge 26, 3) := by decide +kernel
theorem dX7_takeAwayFor_13 : decode cX7_takeAwayFor 13 = .ok (.aload_n 1, 1) := by decide +kernel
theorem dX7_takeAwayFor_14 : decode cX7_takeAwayFor 14 = .ok (.getfield 156, 3) := by decide +kernel
theorem dX7_takeAwayFor_17 : decode cX7_takeAwayFor 17 = .ok (.iload_n 3, 1) := by decide +kernel
theorem dX7_takeAwayFor_18 : decode cX7_takeAwayFor 18 = .ok (.baload, 1) := by decide +kernel
theorem dX7_takeAwayFor_19 : decode cX7_takeAwayFor 19 = .ok (.ifCond .ne 11, 3) := by decide +kernel
theorem dX7_takeAwayFor_22 : decode cX7_takeAwayFor 22 = .ok (.aload_n 0, 1) := by decide +kernel
theorem dX7_takeAwayFor_23 : decode cX7_takeAwayFor 23 = .ok (.aload_n 1, 1) := by decide +kernel
theorem dX7_takeAwayFor_24 : decode cX7_takeAwayFor 24 = .ok (.iload_n 3, 1) := by decide +kernel
theorem dX7_takeAwayFor_25 : decode cX7_takeAwayFor 25 = .ok (.iload_n 2, 1) := by decide +kernel
theorem dX7_takeAwayFor_26 : decode cX7_takeAwayFor 26 = .ok (.invokevirtual 160, 3) := by decide +kernel
theorem dX7_takeAwayFor_29 : decode cX7_takeAwayFor 29 = .ok (.pop, 1) := by decide +kernel
theorem dX7_takeAwayFor_30 : decode cX7_takeAwayFor 30 = .ok (.iinc 3 1, 3) := by decide +kernel
theorem dX7_takeAwayFor_33 : decode cX7_takeAwayFor 33 = .ok (.goto (-31), 3) := by decide +kernel
theorem dX7_takeAwayFor_36 : decode cX7_takeAwayFor 36 = .ok (.return_, 1) := by decide +kernel
theorem dX7_addFor_0 : decode cX7_addFor 0 = .ok (.aload_n 0, 1) := by decide +kernel
theorem dX7_addFor_1 : decode cX7_addFor 1 = .ok (.getfield 31, 3) := by decide +kernel
theorem dX7_addFor_4 : decode cX7_addFor 4 = .ok (.iconst (-1), 1) := by decide +kernel
theorem dX7_addFor_5 : decode cX7_addFor 5 = .ok (.invokestatic 164, 3) := by decide +kernel
theorem dX7_addFor_8 : decode cX7_addFor 8 = .ok (.iconst 1, 1) := by decide +kernel
theorem dX7_addFor_9 : decode cX7_addFor 9 = .ok (.istore_n 3, 1) := by decide +kernel
theorem dX7_addFor_10 : decode cX7_addFor 10 = .ok (.iconst 0, 1) := by decide +kernel
theorem dX7_addFor_11 : decode cX7_addFor 11 = .ok (.istore 4, 2) := by decide +kernel
theorem dX7_addFor_13 : decode cX7_addFor 13 = .ok (.iload 4, 2) := by decide +kernel
theorem dX7_addFor_15 : decode cX7_addFor 15 = .ok (.aload_n 1, 1) := by decide +kernel
theorem dX7_addFor_16 : decode cX7_addFor 16 = .ok (.getfield 153, 3) := by decide +kernel
theorem dX7_addFor_19 : decode cX7_addFor 19 = .ok (.getfield 114, 3) := by decide +kernel
theorem dX7_addFor_22 : decode cX7_addFor 22 = .ok (.if_icmp .ge 40, 3) := by decide +kernel
theorem dX7_addFor_25 : decode cX7_addFor 25 = .ok (.iload_n 3, 1) := by decide +kernel
theorem dX7_addFor_26 : decode cX7_addFor 26 = .ok (.ifCond .eq 36, 3) := by decide +kernel
theorem dX7_addFor_29 : decode cX7_addFor 29 = .ok (.aload_n 1, 1) := by decide +kernel
theorem dX7_addFor_30 : decode cX7_addFor 30 = .ok (.getfield 156, 3) := by decide +kernel
theorem dX7_addFor_33 : decode cX7_addFor 33 = .ok (.iload 4, 2) := by decide +kernel
theorem dX7_addFor_35 : decode cX7_addFor 35 = .ok (.baload, 1) := by decide +kernel
theorem dX7_addFor_36 : decode cX7_addFor 36 = .ok (.ifCond .eq 14, 3) := by decide +kernel
theorem dX7_addFor_39 : decode cX7_addFor 39 = .ok (.aload_n 0, 1) := by decide +kernel
theorem dX7_addFor_40 : decode cX7_addFor 40 = .ok (.aload_n 1, 1) := by decide +kernel
theorem dX7_addFor_41 : decode cX7_addFor 41 = .ok (.iload 4, 2) := by decide +kernel
theorem dX7_addFor_43 : decode cX7_addFor 43 = .ok (.iload_n 2, 1) := by decide +kernel
theorem dX7_addFor_44 : decode cX7_addFor 44 = .ok (.invokevirtual 160, 3) := by decide +kernel
theorem dX7_addFor_47 : decode cX7_addFor 47 = .ok (.ifCond .eq 7, 3) := by decide +kernel
theorem dX7_addFor_50 : decode cX7_addFor 50 = .ok (.iconst 1, 1) := by decide +kernel
theorem dX7_addFor_51 : decode cX7_addFor 51 = .ok (.goto 4, 3) := by decide +kernel
theorem dX7_addFor_54 : decode cX7_addFor 54 = .ok (.iconst 0, 1) := by decide +kernel
theorem dX7_addFor_55 : decode cX7_addFor 55 = .ok (.istore_n 3, 1) := by decide +kernel
theorem dX7_addFor_56 : decode cX7_addFor 56 = .ok (.iinc 4 1, 3) := by decide +kernel
theorem dX7_addFor_59 : decode cX7_addFor 59 = .ok (.goto (-46), 3) := by decide +kernel
theorem dX7_addFor_62 : decode cX7_addFor 62 = .ok (.iload_n 3, 1) := by decide +kernel
theorem dX7_addFor_63 : decode cX7_addFor 63 = .ok (.ireturn, 1) := by decide +kernel
theorem dX7_applyRow_0 : decode cX7_applyRow 0 = .ok (.aload_n 0, 1) := by decide +kernel
theorem dX7_applyRow_1 : decode cX7_applyRow 1 = .ok (.getfield 12, 3) := by decide +kernel
theorem dX7_applyRow_4 : decode cX7_applyRow 4 = .ok (.getfield 68, 3) := by decide +kernel
theorem dX7_applyRow_7 : decode cX7_applyRow 7 = .ok (.aload_n 1, 1) := by decide +kernel
theorem dX7_applyRow_8 : decode cX7_applyRow 8 = .ok (.getfield 61, 3) := by decide +kernel
theorem dX7_applyRow_11 : decode cX7_applyRow 11 = .ok (.aaload, 1) := by decide +kernel
theorem dX7_applyRow_12 : decode cX7_applyRow 12 = .ok (.astore 4, 2) := by decide +kernel
theorem dX7_applyRow_14 : decode cX7_applyRow 14 = .ok (.aload_n 0, 1) := by decide +kernel
theorem dX7_applyRow_15 : decode cX7_applyRow 15 = .ok (.aload_n 1, 1) := by decide +kernel
theorem dX7_applyRow_16 : decode cX7_applyRow 16 = .ok (.getfield 153, 3) := by decide +kernel
theorem dX7_applyRow_19 : decode cX7_applyRow 19 = .ok (.iload_n 2, 1) := by decide +kernel
theorem dX7_applyRow_20 : decode cX7_applyRow 20 = .ok (.invokevirtual 119, 3) := by decide +kernel
theorem dX7_applyRow_23 : decode cX7_applyRow 23 = .ok (.iload_n 3, 1) := by decide +kernel
theorem dX7_applyRow_24 : decode cX7_applyRow 24 = .ok (.invokevirtual 170, 3) := by decide +kernel
theorem dX7_applyRow_27 : decode cX7_applyRow 27 = .ok (.istore 5, 2) := by decide +kernel
theorem dX7_applyRow_29 : decode cX7_applyRow 29 = .ok (.aload_n 0, 1) := by decide +kernel
theorem dX7_applyRow_30 : decode cX7_applyRow 30 = .ok (.aload_n 1, 1) := by decide +kernel
theorem dX7_applyRow_31 : decode cX7_applyRow 31 = .ok (.getfield 153, 3) := by decide +kernel
theorem dX7_applyRow_34 : decode cX7_applyRow 34 = .ok (.iload_n 2, 1) := by decide +kernel
theorem dX7_applyRow_35 : decode cX7_applyRow 35 = .ok (.invokevirtual 123, 3) := by decide +kernel
theorem dX7_applyRow_38 : decode cX7_applyRow 38 = .ok (.iload_n 3, 1) := by decide +kernel
theorem dX7_applyRow_39 : decode cX7_applyRow 39 = .ok (.invokevirtual 170, 3) := by decide +kernel
theorem dX7_applyRow_42 : decode cX7_applyRow 42 = .ok (.istore 6, 2) := by decide +kernel
theorem dX7_applyRow_44 : decode cX7_applyRow 44 = .ok (.aload_n 0, 1) := by decide +kernel
theorem dX7_applyRow_45 : decode cX7_applyRow 45 = .ok (.aload_n 1, 1) := by decide +kernel
theorem dX7_applyRow_46 : decode cX7_applyRow 46 = .ok (.getfield 153, 3) := by decide +kernel
theorem dX7_applyRow_49 : decode cX7_applyRow 49 = .ok (.iload_n 2, 1) := by decide +kernel
theorem dX7_applyRow_50 : decode cX7_applyRow 50 = .ok (.invokevirtual 126, 3) := by decide +kernel
theorem dX7_applyRow_53 : decode cX7_applyRow 53 = .ok (.iload_n 3, 1) := by decide +kernel
theorem dX7_applyRow_54 : decode cX7_applyRow 54 = .ok (.invokevirtual 170, 3) := by decide +kernel
theorem dX7_applyRow_57 : decode cX7_applyRow 57 = .ok (.istore 7, 2) := by decide +kernel
theorem dX7_applyRow_59 : decode cX7_applyRow 59 = .ok (.iload 5, 2) := by decide +kernel
theorem dX7_applyRow_61 : decode cX7_applyRow 61 = .ok (.iconst (-1), 1) := by decide +kernel
theorem dX7_applyRow_62 : decode cX7_applyRow 62 = .ok (.if_icmp .eq 17, 3) := by decide +kernel
theorem dX7_applyRow_65 : decode cX7_applyRow 65 = .ok (.iload 7, 2) := by decide +kernel
theorem dX7_applyRow_67 : decode cX7_applyRow 67 = .ok (.iconst (-1), 1) := by decide +kernel
theorem dX7_applyRow_68 : decode cX7_applyRow 68 = .ok (.if_icmp .eq 11, 3) := by decide +kernel
theorem dX7_applyRow_71 : decode cX7_applyRow 71 = .ok (.iload 6, 2) := by decide +kernel
theorem dX7_applyRow_73 : decode cX7_applyRow 73 = .ok (.invokestatic 174, 3) := by decide +kernel
theorem dX7_applyRow_76 : decode cX7_applyRow 76 = .ok (.ifCond .ne 5, 3) := by decide +kernel
theorem dX7_applyRow_79 : decode cX7_applyRow 79 = .ok (.iconst 1, 1) := by decide +kernel
theorem dX7_applyRow_80 : decode cX7_applyRow 80 = .ok (.ireturn, 1) := by decide +kernel
theorem dX7_applyRow_81 : decode cX7_applyRow 81 = .ok (.aload_n 1, 1) := by decide +kernel
theorem dX7_applyRow_82 : decode cX7_applyRow 82 = .ok (.getfield 156, 3) := by decide +kernel
theorem dX7_applyRow_85 : decode cX7_applyRow 85 = .ok (.iload_n 2, 1) := by decide +kernel
theorem dX7_applyRow_86 : decode cX7_applyRow 86 = .ok (.baload, 1) := by decide +kernel
theorem dX7_applyRow_87 : decode cX7_applyRow 87 = .ok (.ifCond .ne 19, 3) := by decide +kernel
theorem dX7_applyRow_90 : decode cX7_applyRow 90 = .ok (.aload 4, 2) := by decide +kernel
theorem dX7_applyRow_92 : decode cX7_applyRow 92 = .ok (.iload 5, 2) := by decide +kernel
theorem dX7_applyRow_94 : decode cX7_applyRow 94 = .ok (.iload 6, 2) := by decide +kernel
theorem dX7_applyRow_96 : decode cX7_applyRow 96 = .ok (.iload 7, 2) := by decide +kernel
theorem dX7_applyRow_98 : decode cX7_applyRow 98 = .ok (.invokestatic 129, 3) := by decide +kernel
theorem dX7_applyRow_101 : decode cX7_applyRow 101 = .ok (.invokevirtual 177, 3) := by decide +kernel
theorem dX7_applyRow_104 : decode cX7_applyRow 104 = .ok (.iconst 1, 1) := by decide +kernel
theorem dX7_applyRow_105 : decode cX7_applyRow 105 = .ok (.ireturn, 1) := by decide +kernel
theorem dX7_applyRow_106 : decode cX7_applyRow 106 = .ok (.aload_n 0, 1) := by decide +kernel
theorem dX7_applyRow_107 : decode cX7_applyRow 107 = .ok (.iload 5, 2) := by decide +kernel
theorem dX7_applyRow_109 : decode cX7_applyRow 109 = .ok (.invokevirtual 180, 3) := by decide +kernel
theorem dX7_applyRow_112 : decode cX7_applyRow 112 = .ok (.istore 8, 2) := by decide +kernel
theorem dX7_applyRow_114 : decode cX7_applyRow 114 = .ok (.aload_n 0, 1) := by decide +kernel
theorem dX7_applyRow_115 : decode cX7_applyRow 115 = .ok (.iload 7, 2) := by decide +kernel
theorem dX7_applyRow_117 : decode cX7_applyRow 117 = .ok (.invokevirtual 180, 3) := by decide +kernel
theorem dX7_applyRow_120 : decode cX7_applyRow 120 = .ok (.istore 9, 2) := by decide +kernel
theorem dX7_applyRow_122 : decode cX7_applyRow 122 = .ok (.iload 8, 2) := by decide +kernel
theorem dX7_applyRow_124 : decode cX7_applyRow 124 = .ok (.iconst (-1), 1) := by decide +kernel
theorem dX7_applyRow_125 : decode cX7_applyRow 125 = .ok (.if_icmp .eq 34, 3) := by decide +kernel
theorem dX7_applyRow_128 : decode cX7_applyRow 128 = .ok (.iload 9, 2) := by decide +kernel
theorem dX7_applyRow_130 : decode cX7_applyRow 130 = .ok (.iconst (-1), 1) := by decide +kernel
theorem dX7_applyRow_131 : decode cX7_applyRow 131 = .ok (.if_icmp .eq 28, 3) := by decide +kernel
theorem dX7_applyRow_134 : decode cX7_applyRow 134 = .ok (.aload_n 0, 1) := by decide +kernel
theorem dX7_applyRow_135 : decode cX7_applyRow 135 = .ok (.getfield 12, 3) := by decide +kernel
theorem dX7_applyRow_138 : decode cX7_applyRow 138 = .ok (.aload 4, 2) := by decide +kernel
theorem dX7_applyRow_140 : decode cX7_applyRow 140 = .ok (.iload 8, 2) := by decide +kernel
theorem dX7_applyRow_142 : decode cX7_applyRow 142 = .ok (.iload 6, 2) := by decide +kernel
theorem dX7_applyRow_144 : decode cX7_applyRow 144 = .ok (.iload 9, 2) := by decide +kernel
theorem dX7_applyRow_146 : decode cX7_applyRow 146 = .ok (.invokestatic 129, 3) := by decide +kernel
theorem dX7_applyRow_149 : decode cX7_applyRow 149 = .ok (.invokevirtual 103, 3) := by decide +kernel
theorem dX7_applyRow_152 : decode cX7_applyRow 152 = .ok (.ifCond .eq 7, 3) := by decide +kernel
theorem dX7_applyRow_155 : decode cX7_applyRow 155 = .ok (.iconst 1, 1) := by decide +kernel
theorem dX7_applyRow_156 : decode cX7_applyRow 156 = .ok (.goto 4, 3) := by decide +kernel
theorem dX7_applyRow_159 : decode cX7_applyRow 159 = .ok (.iconst 0, 1) := by decide +kernel
theorem dX7_applyRow_160 : decode cX7_applyRow 160 = .ok (.ireturn, 1) := by decide +kernel
theorem dX7_valueOf_0 : decode cX7_valueOf 0 = .ok (.iload_n 1, 1) := by decide +kernel
theorem dX7_valueOf_1 : decode cX7_valueOf 1 = .ok (.invokestatic 183, 3) := by decide +kernel
theorem dX7_valueOf_4 : decode cX7_valueOf 4 = .ok (.ifCond .eq 15, 3) := by decide +kernel
theorem dX7_valueOf_7 : decode cX7_valueOf 7 = .ok (.aload_n 0, 1) := by decide +kernel
theorem dX7_valueOf_8 : decode cX7_valueOf 8 = .ok (.getfield 27, 3) := by decide +kernel
theorem dX7_valueOf_11 : decode cX7_valueOf 11 = .ok (.iload_n 2, 1) := by decide +kernel
theorem dX7_valueOf_12 : decode cX7_valueOf 12 = .ok (.iload_n 1, 1) := by decide +kernel
theorem dX7_valueOf_13 : decode cX7_valueOf 13 = .ok (.invokevirtual 186, 3) := by decide +kernel
theorem dX7_valueOf_16 : decode cX7_valueOf 16 = .ok (.goto 4, 3) := by decide +kernel
theorem dX7_valueOf_19 : decode cX7_valueOf 19 = .ok (.iload_n 1, 1) := by decide +kernel
theorem dX7_valueOf_20 : decode cX7_valueOf 20 = .ok (.ireturn, 1) := by decide +kernel
theorem dX7_withBlank_0 : decode cX7_withBlank 0 = .ok (.iload_n 1, 1) := by decide +kernel
theorem dX7_withBlank_1 : decode cX7_withBlank 1 = .ok (.invokestatic 189, 3) := by decide +kernel
theorem dX7_withBlank_4 : decode cX7_withBlank 4 = .ok (.ifCond .ne 5, 3) := by decide +kernel
theorem dX7_withBlank_7 : decode cX7_withBlank 7 = .ok (.iload_n 1, 1) := by decide +kernel
theorem dX7_withBlank_8 : decode cX7_withBlank 8 = .ok (.ireturn, 1) := by decide +kernel
theorem dX7_withBlank_9 : decode cX7_withBlank 9 = .ok (.bipush (-11), 2) := by decide +kernel
theorem dX7_withBlank_11 : decode cX7_withBlank 11 = .ok (.iload_n 1, 1) := by decide +kernel
theorem dX7_withBlank_12 : decode cX7_withBlank 12 = .ok (.isub, 1) := by decide +kernel
theorem dX7_withBlank_13 : decode cX7_withBlank 13 = .ok (.istore_n 2, 1) := by decide +kernel
theorem dX7_withBlank_14 : decode cX7_withBlank 14 = .ok (.aload_n 0, 1) := by decide +kernel
theorem dX7_withBlank_15 : decode cX7_withBlank 15 = .ok (.getfield 31, 3) := by decide +kernel
theorem dX7_withBlank_18 : decode cX7_withBlank 18 = .ok (.iload_n 2, 1) := by decide +kernel
theorem dX7_withBlank_19 : decode cX7_withBlank 19 = .ok (.iaload, 1) := by decide +kernel
theorem dX7_withBlank_20 : decode cX7_withBlank 20 = .ok (.iconst (-1), 1) := by decide +kernel
theorem dX7_withBlank_21 : decode cX7_withBlank 21 = .ok (.if_icmp .ne 16, 3) := by decide +kernel
theorem dX7_withBlank_24 : decode cX7_withBlank 24 = .ok (.aload_n 0, 1) := by decide +kernel
theorem dX7_withBlank_25 : decode cX7_withBlank 25 = .ok (.getfield 31, 3) := by decide +kernel
theorem dX7_withBlank_28 : decode cX7_withBlank 28 = .ok (.iload_n 2, 1) := by decide +kernel
theorem dX7_withBlank_29 : decode cX7_withBlank 29 = .ok (.aload_n 0, 1) := by decide +kernel
theorem dX7_withBlank_30 : decode cX7_withBlank 30 = .ok (.getfield 12, 3) := by decide +kernel
theorem dX7_withBlank_33 : decode cX7_withBlank 33 = .ok (.invokevirtual 192, 3) := by decide +kernel
theorem dX7_withBlank_36 : decode cX7_withBlank 36 = .ok (.iastore, 1) := by decide +kernel
theorem dX7_withBlank_37 : decode cX7_withBlank 37 = .ok (.aload_n 0, 1) := by decide +kernel
theorem dX7_withBlank_38 : decode cX7_withBlank 38 = .ok (.getfield 31, 3) := by decide +kernel
theorem dX7_withBlank_41 : decode cX7_withBlank 41 = .ok (.iload_n 2, 1) := by decide +kernel
theorem dX7_withBlank_42 : decode cX7_withBlank 42 = .ok (.iaload, 1) := by decide +kernel
theorem dX7_withBlank_43 : decode cX7_withBlank 43 = .ok (.ireturn, 1) := by decide +kernel
theorem dX8_init_0 : decode cX8_init 0 = .ok (.aload_n 0, 1) := by decide +kernel
theorem dX8_init_1 : decode cX8_init 1 = .ok (.invokespecial 1, 3) := by decide +kernel
theorem dX8_init_4 : decode cX8_init 4 = .ok (.aload_n 0, 1) := by decide +kernel
theorem dX8_init_5 : decode cX8_init 5 = .ok (.bipush 12, 2) := by decide +kernel
theorem dX8_init_7 : decode cX8_init 7 = .ok (.anewarray 9, 3) := by decide +kernel
theorem dX8_init_10 : decode cX8_init 10 = .ok (.putfield 11, 3) := by decide +kernel
theorem dX8_init_13 : decode cX8_init 13 = .ok (.aload_n 0, 1) := by decide +kernel
theorem dX8_init_14 : decode cX8_init 14 = .ok (.new 15, 3) := by decide +kernel
theorem dX8_init_17 : decode cX8_init 17 = .ok (.dup, 1) := by decide +kernel
theorem dX8_init_18 : decode cX8_init 18 = .ok (.invokespecial 17, 3) := by decide +kernel
end
end
section
section
theorem dX8_init_21 : decode cX8_init 21 = .ok (.putfield 18, 3) := by decide +kernel
theorem dX8_init_24 : decode cX8_init 24 = .ok (.aload_n 0, 1) := by decide +kernel
theorem dX8_init_25 : decode cX8_init 25 = .ok (.aload_n 0, 1) := by decide +kernel
theorem dX8_init_26 : decode cX8_init 26 = .ok (.getfield 18, 3) := by decide +kernel
theorem dX8_init_29 : decode cX8_init 29 = .ok (.getfield 22, 3) := by decide +kernel
theorem dX8_init_32 : decode cX8_init 32 = .ok (.putfield 26, 3) := by decide +kernel
theorem dX8_init_35 : decode cX8_init 35 = .ok (.aload_n 0, 1) := by decide +kernel
theorem dX8_init_36 : decode cX8_init 36 = .ok (.new 27, 3) := by decide +kernel
theorem dX8_init_39 : decode cX8_init 39 = .ok (.dup, 1) := by decide +kernel
theorem dX8_init_40 : decode cX8_init 40 = .ok (.invokespecial 29, 3) := by decide +kernel
theorem dX8_init_43 : decode cX8_init 43 = .ok (.putfield 30, 3) := by decide +kernel
theorem dX8_init_46 : decode cX8_init 46 = .ok (.aload_n 0, 1) := by decide +kernel
theorem dX8_init_47 : decode cX8_init 47 = .ok (.new 33, 3) := by decide +kernel
theorem dX8_init_50 : decode cX8_init 50 = .ok (.dup, 1) := by decide +kernel
theorem dX8_init_51 : decode cX8_init 51 = .ok (.invokespecial 35, 3) := by decide +kernel
theorem dX8_init_54 : decode cX8_init 54 = .ok (.putfield 36, 3) := by decide +kernel
theorem dX8_init_57 : decode cX8_init 57 = .ok (.aload_n 0, 1) := by decide +kernel
theorem dX8_init_58 : decode cX8_init 58 = .ok (.iconst 0, 1) := by decide +kernel
theorem dX8_init_59 : decode cX8_init 59 = .ok (.putfield 40, 3) := by decide +kernel
theorem dX8_init_62 : decode cX8_init 62 = .ok (.aload_n 0, 1) := by decide +kernel
theorem dX8_init_63 : decode cX8_init 63 = .ok (.iconst (-1), 1) := by decide +kernel
theorem dX8_init_64 : decode cX8_init 64 = .ok (.putfield 44, 3) := by decide +kernel
theorem dX8_init_67 : decode cX8_init 67 = .ok (.aload_n 0, 1) := by decide +kernel
theorem dX8_init_68 : decode cX8_init 68 = .ok (.iconst 0, 1) := by decide +kernel
theorem dX8_init_69 : decode cX8_init 69 = .ok (.putfield 47, 3) := by decide +kernel
theorem dX8_init_72 : decode cX8_init 72 = .ok (.iconst 0, 1) := by decide +kernel
theorem dX8_init_73 : decode cX8_init 73 = .ok (.istore_n 1, 1) := by decide +kernel
theorem dX8_init_74 : decode cX8_init 74 = .ok (.iload_n 1, 1) := by decide +kernel
theorem dX8_init_75 : decode cX8_init 75 = .ok (.bipush 12, 2) := by decide +kernel
theorem dX8_init_77 : decode cX8_init 77 = .ok (.if_icmp .ge 22, 3) := by decide +kernel
theorem dX8_init_80 : decode cX8_init 80 = .ok (.aload_n 0, 1) := by decide +kernel
theorem dX8_init_81 : decode cX8_init 81 = .ok (.getfield 11, 3) := by decide +kernel
theorem dX8_init_84 : decode cX8_init 84 = .ok (.iload_n 1, 1) := by decide +kernel
theorem dX8_init_85 : decode cX8_init 85 = .ok (.new 9, 3) := by decide +kernel
theorem dX8_init_88 : decode cX8_init 88 = .ok (.dup, 1) := by decide +kernel
theorem dX8_init_89 : decode cX8_init 89 = .ok (.invokespecial 50, 3) := by decide +kernel
theorem dX8_init_92 : decode cX8_init 92 = .ok (.aastore, 1) := by decide +kernel
theorem dX8_init_93 : decode cX8_init 93 = .ok (.iinc 1 1, 3) := by decide +kernel
theorem dX8_init_96 : decode cX8_init 96 = .ok (.goto (-22), 3) := by decide +kernel
theorem dX8_init_99 : decode cX8_init 99 = .ok (.return_, 1) := by decide +kernel
theorem dX8_step_0 : decode cX8_step 0 = .ok (.iload_n 1, 1) := by decide +kernel
theorem dX8_step_1 : decode cX8_step 1 = .ok (.ifCond .lt 25, 3) := by decide +kernel
theorem dX8_step_4 : decode cX8_step 4 = .ok (.iload_n 1, 1) := by decide +kernel
theorem dX8_step_5 : decode cX8_step 5 = .ok (.bipush 9, 2) := by decide +kernel
theorem dX8_step_7 : decode cX8_step 7 = .ok (.if_icmp .gt 19, 3) := by decide +kernel
theorem dX8_step_10 : decode cX8_step 10 = .ok (.iload_n 1, 1) := by decide +kernel
theorem dX8_step_11 : decode cX8_step 11 = .ok (.iload_n 2, 1) := by decide +kernel
theorem dX8_step_12 : decode cX8_step 12 = .ok (.invokestatic 51, 3) := by decide +kernel
theorem dX8_step_15 : decode cX8_step 15 = .ok (.ifCond .eq 11, 3) := by decide +kernel
theorem dX8_step_18 : decode cX8_step 18 = .ok (.iload_n 1, 1) := by decide +kernel
theorem dX8_step_19 : decode cX8_step 19 = .ok (.iload_n 3, 1) := by decide +kernel
theorem dX8_step_20 : decode cX8_step 20 = .ok (.invokestatic 55, 3) := by decide +kernel
theorem dX8_step_23 : decode cX8_step 23 = .ok (.ifCond .ne 13, 3) := by decide +kernel
theorem dX8_step_26 : decode cX8_step 26 = .ok (.new 58, 3) := by decide +kernel
theorem dX8_step_29 : decode cX8_step 29 = .ok (.dup, 1) := by decide +kernel
theorem dX8_step_30 : decode cX8_step 30 = .ok (.ldc 60, 2) := by decide +kernel
theorem dX8_step_32 : decode cX8_step 32 = .ok (.invokespecial 62, 3) := by decide +kernel
theorem dX8_step_35 : decode cX8_step 35 = .ok (.athrow, 1) := by decide +kernel
theorem dX8_step_36 : decode cX8_step 36 = .ok (.aload_n 0, 1) := by decide +kernel
theorem dX8_step_37 : decode cX8_step 37 = .ok (.getfield 40, 3) := by decide +kernel
theorem dX8_step_40 : decode cX8_step 40 = .ok (.bipush 12, 2) := by decide +kernel
theorem dX8_step_42 : decode cX8_step 42 = .ok (.if_icmp .lt 13, 3) := by decide +kernel
theorem dX8_step_45 : decode cX8_step 45 = .ok (.new 65, 3) := by decide +kernel
theorem dX8_step_48 : decode cX8_step 48 = .ok (.dup, 1) := by decide +kernel
theorem dX8_step_49 : decode cX8_step 49 = .ok (.ldc 67, 2) := by decide +kernel
theorem dX8_step_51 : decode cX8_step 51 = .ok (.invokespecial 69, 3) := by decide +kernel
theorem dX8_step_54 : decode cX8_step 54 = .ok (.athrow, 1) := by decide +kernel
theorem dX8_step_55 : decode cX8_step 55 = .ok (.aload_n 0, 1) := by decide +kernel
theorem dX8_step_56 : decode cX8_step 56 = .ok (.getfield 11, 3) := by decide +kernel
theorem dX8_step_59 : decode cX8_step 59 = .ok (.aload_n 0, 1) := by decide +kernel
theorem dX8_step_60 : decode cX8_step 60 = .ok (.getfield 40, 3) := by decide +kernel
theorem dX8_step_63 : decode cX8_step 63 = .ok (.aaload, 1) := by decide +kernel
theorem dX8_step_64 : decode cX8_step 64 = .ok (.iload_n 1, 1) := by decide +kernel
theorem dX8_step_65 : decode cX8_step 65 = .ok (.iload_n 1, 1) := by decide +kernel
theorem dX8_step_66 : decode cX8_step 66 = .ok (.invokestatic 70, 3) := by decide +kernel
theorem dX8_step_69 : decode cX8_step 69 = .ok (.ifCond .eq 7, 3) := by decide +kernel
theorem dX8_step_72 : decode cX8_step 72 = .ok (.iload_n 2, 1) := by decide +kernel
theorem dX8_step_73 : decode cX8_step 73 = .ok (.goto 4, 3) := by decide +kernel
theorem dX8_step_76 : decode cX8_step 76 = .ok (.iconst 0, 1) := by decide +kernel
theorem dX8_step_77 : decode cX8_step 77 = .ok (.iload_n 3, 1) := by decide +kernel
theorem dX8_step_78 : decode cX8_step 78 = .ok (.invokevirtual 74, 3) := by decide +kernel
theorem dX8_step_81 : decode cX8_step 81 = .ok (.aload_n 0, 1) := by decide +kernel
theorem dX8_step_82 : decode cX8_step 82 = .ok (.dup, 1) := by decide +kernel
theorem dX8_step_83 : decode cX8_step 83 = .ok (.getfield 40, 3) := by decide +kernel
theorem dX8_step_86 : decode cX8_step 86 = .ok (.iconst 1, 1) := by decide +kernel
theorem dX8_step_87 : decode cX8_step 87 = .ok (.iadd, 1) := by decide +kernel
theorem dX8_step_88 : decode cX8_step 88 = .ok (.putfield 40, 3) := by decide +kernel
theorem dX8_step_91 : decode cX8_step 91 = .ok (.aload_n 0, 1) := by decide +kernel
theorem dX8_step_92 : decode cX8_step 92 = .ok (.getfield 40, 3) := by decide +kernel
theorem dX8_step_95 : decode cX8_step 95 = .ok (.iconst 1, 1) := by decide +kernel
theorem dX8_step_96 : decode cX8_step 96 = .ok (.isub, 1) := by decide +kernel
theorem dX8_step_97 : decode cX8_step 97 = .ok (.ireturn, 1) := by decide +kernel
theorem dX8_silent_0 : decode cX8_silent 0 = .ok (.aload_n 0, 1) := by decide +kernel
theorem dX8_silent_1 : decode cX8_silent 1 = .ok (.iload_n 1, 1) := by decide +kernel
theorem dX8_silent_2 : decode cX8_silent 2 = .ok (.invokevirtual 78, 3) := by decide +kernel
theorem dX8_silent_5 : decode cX8_silent 5 = .ok (.astore_n 3, 1) := by decide +kernel
theorem dX8_silent_6 : decode cX8_silent 6 = .ok (.aload_n 3, 1) := by decide +kernel
theorem dX8_silent_7 : decode cX8_silent 7 = .ok (.getfield 82, 3) := by decide +kernel
theorem dX8_silent_10 : decode cX8_silent 10 = .ok (.istore 4, 2) := by decide +kernel
theorem dX8_silent_12 : decode cX8_silent 12 = .ok (.aload_n 3, 1) := by decide +kernel
theorem dX8_silent_13 : decode cX8_silent 13 = .ok (.iload_n 2, 1) := by decide +kernel
theorem dX8_silent_14 : decode cX8_silent 14 = .ok (.putfield 82, 3) := by decide +kernel
theorem dX8_silent_17 : decode cX8_silent 17 = .ok (.iload 4, 2) := by decide +kernel
theorem dX8_silent_19 : decode cX8_silent 19 = .ok (.ireturn, 1) := by decide +kernel
theorem dX8_template_0 : decode cX8_template 0 = .ok (.aload_n 0, 1) := by decide +kernel
theorem dX8_template_1 : decode cX8_template 1 = .ok (.iload_n 1, 1) := by decide +kernel
theorem dX8_template_2 : decode cX8_template 2 = .ok (.invokevirtual 78, 3) := by decide +kernel
theorem dX8_template_5 : decode cX8_template 5 = .ok (.astore 6, 2) := by decide +kernel
theorem dX8_template_7 : decode cX8_template 7 = .ok (.aload 6, 2) := by decide +kernel
theorem dX8_template_9 : decode cX8_template 9 = .ok (.getfield 86, 3) := by decide +kernel
theorem dX8_template_12 : decode cX8_template 12 = .ok (.istore 7, 2) := by decide +kernel
theorem dX8_template_14 : decode cX8_template 14 = .ok (.iload 7, 2) := by decide +kernel
theorem dX8_template_16 : decode cX8_template 16 = .ok (.iload 5, 2) := by decide +kernel
theorem dX8_template_18 : decode cX8_template 18 = .ok (.invokestatic 89, 3) := by decide +kernel
theorem dX8_template_21 : decode cX8_template 21 = .ok (.ifCond .eq 44, 3) := by decide +kernel
theorem dX8_template_24 : decode cX8_template 24 = .ok (.iload 7, 2) := by decide +kernel
theorem dX8_template_26 : decode cX8_template 26 = .ok (.iload 5, 2) := by decide +kernel
theorem dX8_template_28 : decode cX8_template 28 = .ok (.iload_n 2, 1) := by decide +kernel
theorem dX8_template_29 : decode cX8_template 29 = .ok (.invokestatic 93, 3) := by decide +kernel
theorem dX8_template_32 : decode cX8_template 32 = .ok (.ifCond .eq 33, 3) := by decide +kernel
theorem dX8_template_35 : decode cX8_template 35 = .ok (.iload_n 3, 1) := by decide +kernel
theorem dX8_template_36 : decode cX8_template 36 = .ok (.invokestatic 97, 3) := by decide +kernel
theorem dX8_template_39 : decode cX8_template 39 = .ok (.ifCond .ne 26, 3) := by decide +kernel
theorem dX8_template_42 : decode cX8_template 42 = .ok (.iload 7, 2) := by decide +kernel
theorem dX8_template_44 : decode cX8_template 44 = .ok (.iload 5, 2) := by decide +kernel
theorem dX8_template_46 : decode cX8_template 46 = .ok (.iload_n 3, 1) := by decide +kernel
theorem dX8_template_47 : decode cX8_template 47 = .ok (.invokestatic 93, 3) := by decide +kernel
theorem dX8_template_50 : decode cX8_template 50 = .ok (.ifCond .eq 15, 3) := by decide +kernel
theorem dX8_template_53 : decode cX8_template 53 = .ok (.iload 7, 2) := by decide +kernel
theorem dX8_template_55 : decode cX8_template 55 = .ok (.iload 5, 2) := by decide +kernel
theorem dX8_template_57 : decode cX8_template 57 = .ok (.iload 4, 2) := by decide +kernel
theorem dX8_template_59 : decode cX8_template 59 = .ok (.invokestatic 93, 3) := by decide +kernel
theorem dX8_template_62 : decode cX8_template 62 = .ok (.ifCond .ne 13, 3) := by decide +kernel
theorem dX8_template_65 : decode cX8_template 65 = .ok (.new 58, 3) := by decide +kernel
theorem dX8_template_68 : decode cX8_template 68 = .ok (.dup, 1) := by decide +kernel
theorem dX8_template_69 : decode cX8_template 69 = .ok (.ldc 100, 2) := by decide +kernel
theorem dX8_template_71 : decode cX8_template 71 = .ok (.invokespecial 62, 3) := by decide +kernel
theorem dX8_template_74 : decode cX8_template 74 = .ok (.athrow, 1) := by decide +kernel
theorem dX8_template_75 : decode cX8_template 75 = .ok (.aload 6, 2) := by decide +kernel
theorem dX8_template_77 : decode cX8_template 77 = .ok (.getfield 102, 3) := by decide +kernel
theorem dX8_template_80 : decode cX8_template 80 = .ok (.invokevirtual 106, 3) := by decide +kernel
theorem dX8_template_83 : decode cX8_template 83 = .ok (.ifCond .eq 13, 3) := by decide +kernel
theorem dX8_template_86 : decode cX8_template 86 = .ok (.new 65, 3) := by decide +kernel
theorem dX8_template_89 : decode cX8_template 89 = .ok (.dup, 1) := by decide +kernel
theorem dX8_template_90 : decode cX8_template 90 = .ok (.ldc 112, 2) := by decide +kernel
theorem dX8_template_92 : decode cX8_template 92 = .ok (.invokespecial 69, 3) := by decide +kernel
theorem dX8_template_95 : decode cX8_template 95 = .ok (.athrow, 1) := by decide +kernel
theorem dX8_template_96 : decode cX8_template 96 = .ok (.aload 6, 2) := by decide +kernel
theorem dX8_template_98 : decode cX8_template 98 = .ok (.iload_n 2, 1) := by decide +kernel
theorem dX8_template_99 : decode cX8_template 99 = .ok (.iload_n 3, 1) := by decide +kernel
theorem dX8_template_100 : decode cX8_template 100 = .ok (.iload 4, 2) := by decide +kernel
theorem dX8_template_102 : decode cX8_template 102 = .ok (.iload 5, 2) := by decide +kernel
theorem dX8_template_104 : decode cX8_template 104 = .ok (.invokevirtual 114, 3) := by decide +kernel
theorem dX8_template_107 : decode cX8_template 107 = .ok (.ireturn, 1) := by decide +kernel
theorem dX8_pattern_0 : decode cX8_pattern 0 = .ok (.aload_n 0, 1) := by decide +kernel
theorem dX8_pattern_1 : decode cX8_pattern 1 = .ok (.iload_n 1, 1) := by decide +kernel
theorem dX8_pattern_2 : decode cX8_pattern 2 = .ok (.invokevirtual 78, 3) := by decide +kernel
theorem dX8_pattern_5 : decode cX8_pattern 5 = .ok (.astore 5, 2) := by decide +kernel
theorem dX8_pattern_7 : decode cX8_pattern 7 = .ok (.aload 5, 2) := by decide +kernel
theorem dX8_pattern_9 : decode cX8_pattern 9 = .ok (.getfield 86, 3) := by decide +kernel
theorem dX8_pattern_12 : decode cX8_pattern 12 = .ok (.iconst 2, 1) := by decide +kernel
theorem dX8_pattern_13 : decode cX8_pattern 13 = .ok (.if_icmp .ne 25, 3) := by decide +kernel
theorem dX8_pattern_16 : decode cX8_pattern 16 = .ok (.iload_n 2, 1) := by decide +kernel
theorem dX8_pattern_17 : decode cX8_pattern 17 = .ok (.invokestatic 118, 3) := by decide +kernel
theorem dX8_pattern_20 : decode cX8_pattern 20 = .ok (.ifCond .eq 18, 3) := by decide +kernel
theorem dX8_pattern_23 : decode cX8_pattern 23 = .ok (.iload_n 3, 1) := by decide +kernel
theorem dX8_pattern_24 : decode cX8_pattern 24 = .ok (.invokestatic 118, 3) := by decide +kernel
theorem dX8_pattern_27 : decode cX8_pattern 27 = .ok (.ifCond .eq 11, 3) := by decide +kernel
theorem dX8_pattern_30 : decode cX8_pattern 30 = .ok (.iload 4, 2) := by decide +kernel
theorem dX8_pattern_32 : decode cX8_pattern 32 = .ok (.invokestatic 118, 3) := by decide +kernel
theorem dX8_pattern_35 : decode cX8_pattern 35 = .ok (.ifCond .ne 13, 3) := by decide +kernel
theorem dX8_pattern_38 : decode cX8_pattern 38 = .ok (.new 58, 3) := by decide +kernel
theorem dX8_pattern_41 : decode cX8_pattern 41 = .ok (.dup, 1) := by decide +kernel
theorem dX8_pattern_42 : decode cX8_pattern 42 = .ok (.ldc 121, 2) := by decide +kernel
theorem dX8_pattern_44 : decode cX8_pattern 44 = .ok (.invokespecial 62, 3) := by decide +kernel
theorem dX8_pattern_47 : decode cX8_pattern 47 = .ok (.athrow, 1) := by decide +kernel
theorem dX8_pattern_48 : decode cX8_pattern 48 = .ok (.aload 5, 2) := by decide +kernel
theorem dX8_pattern_50 : decode cX8_pattern 50 = .ok (.getfield 123, 3) := by decide +kernel
theorem dX8_pattern_53 : decode cX8_pattern 53 = .ok (.invokevirtual 106, 3) := by decide +kernel
theorem dX8_pattern_56 : decode cX8_pattern 56 = .ok (.ifCond .eq 13, 3) := by decide +kernel
theorem dX8_pattern_59 : decode cX8_pattern 59 = .ok (.new 65, 3) := by decide +kernel
theorem dX8_pattern_62 : decode cX8_pattern 62 = .ok (.dup, 1) := by decide +kernel
theorem dX8_pattern_63 : decode cX8_pattern 63 = .ok (.ldc 126, 2) := by decide +kernel
theorem dX8_pattern_65 : decode cX8_pattern 65 = .ok (.invokespecial 69, 3) := by decide +kernel
theorem dX8_pattern_68 : decode cX8_pattern 68 = .ok (.athrow, 1) := by decide +kernel
theorem dX8_pattern_69 : decode cX8_pattern 69 = .ok (.aload 5, 2) := by decide +kernel
theorem dX8_pattern_71 : decode cX8_pattern 71 = .ok (.getfield 123, 3) := by decide +kernel
theorem dX8_pattern_74 : decode cX8_pattern 74 = .ok (.iload_n 2, 1) := by decide +kernel
theorem dX8_pattern_75 : decode cX8_pattern 75 = .ok (.iload_n 3, 1) := by decide +kernel
theorem dX8_pattern_76 : decode cX8_pattern 76 = .ok (.iload 4, 2) := by decide +kernel
theorem dX8_pattern_78 : decode cX8_pattern 78 = .ok (.invokevirtual 128, 3) := by decide +kernel
theorem dX8_pattern_81 : decode cX8_pattern 81 = .ok (.ireturn, 1) := by decide +kernel
theorem dX8_file_0 : decode cX8_file 0 = .ok (.aload_n 0, 1) := by decide +kernel
theorem dX8_file_1 : decode cX8_file 1 = .ok (.iload_n 1, 1) := by decide +kernel
theorem dX8_file_2 : decode cX8_file 2 = .ok (.invokevirtual 132, 3) := by decide +kernel
theorem dX8_file_5 : decode cX8_file 5 = .ok (.astore 5, 2) := by decide +kernel
theorem dX8_file_7 : decode cX8_file 7 = .ok (.iload_n 2, 1) := by decide +kernel
theorem dX8_file_8 : decode cX8_file 8 = .ok (.invokestatic 136, 3) := by decide +kernel
theorem dX8_file_11 : decode cX8_file 11 = .ok (.ifCond .eq 18, 3) := by decide +kernel
theorem dX8_file_14 : decode cX8_file 14 = .ok (.iload_n 3, 1) := by decide +kernel
theorem dX8_file_15 : decode cX8_file 15 = .ok (.invokestatic 136, 3) := by decide +kernel
theorem dX8_file_18 : decode cX8_file 18 = .ok (.ifCond .eq 11, 3) := by decide +kernel
theorem dX8_file_21 : decode cX8_file 21 = .ok (.iload 4, 2) := by decide +kernel
theorem dX8_file_23 : decode cX8_file 23 = .ok (.invokestatic 136, 3) := by decide +kernel
theorem dX8_file_26 : decode cX8_file 26 = .ok (.ifCond .ne 13, 3) := by decide +kernel
theorem dX8_file_29 : decode cX8_file 29 = .ok (.new 58, 3) := by decide +kernel
theorem dX8_file_32 : decode cX8_file 32 = .ok (.dup, 1) := by decide +kernel
theorem dX8_file_33 : decode cX8_file 33 = .ok (.ldc 139, 2) := by decide +kernel
theorem dX8_file_35 : decode cX8_file 35 = .ok (.invokespecial 62, 3) := by decide +kernel
theorem dX8_file_38 : decode cX8_file 38 = .ok (.athrow, 1) := by decide +kernel
theorem dX8_file_39 : decode cX8_file 39 = .ok (.aload 5, 2) := by decide +kernel
theorem dX8_file_41 : decode cX8_file 41 = .ok (.getfield 141, 3) := by decide +kernel
theorem dX8_file_44 : decode cX8_file 44 = .ok (.invokevirtual 106, 3) := by decide +kernel
theorem dX8_file_47 : decode cX8_file 47 = .ok (.ifCond .eq 13, 3) := by decide +kernel
theorem dX8_file_50 : decode cX8_file 50 = .ok (.new 65, 3) := by decide +kernel
theorem dX8_file_53 : decode cX8_file 53 = .ok (.dup, 1) := by decide +kernel
theorem dX8_file_54 : decode cX8_file 54 = .ok (.ldc 146, 2) := by decide +kernel
theorem dX8_file_56 : decode cX8_file 56 = .ok (.invokespecial 69, 3) := by decide +kernel
theorem dX8_file_59 : decode cX8_file 59 = .ok (.athrow, 1) := by decide +kernel
theorem dX8_file_60 : decode cX8_file 60 = .ok (.aload 5, 2) := by decide +kernel
theorem dX8_file_62 : decode cX8_file 62 = .ok (.getfield 141, 3) := by decide +kernel
theorem dX8_file_65 : decode cX8_file 65 = .ok (.iload_n 2, 1) := by decide +kernel
theorem dX8_file_66 : decode cX8_file 66 = .ok (.iload_n 3, 1) := by decide +kernel
theorem dX8_file_67 : decode cX8_file 67 = .ok (.iload 4, 2) := by decide +kernel
theorem dX8_file_69 : decode cX8_file 69 = .ok (.invokevirtual 128, 3) := by decide +kernel
theorem dX8_file_72 : decode cX8_file 72 = .ok (.ireturn, 1) := by decide +kernel
theorem dX8_torn_0 : decode cX8_torn 0 = .ok (.aload_n 0, 1) := by decide +kernel
theorem dX8_torn_1 : decode cX8_torn 1 = .ok (.iload_n 1, 1) := by decide +kernel
theorem dX8_torn_2 : decode cX8_torn 2 = .ok (.invokevirtual 132, 3) := by decide +kernel
theorem dX8_torn_5 : decode cX8_torn 5 = .ok (.astore_n 3, 1) := by decide +kernel
theorem dX8_torn_6 : decode cX8_torn 6 = .ok (.aload_n 3, 1) := by decide +kernel
theorem dX8_torn_7 : decode cX8_torn 7 = .ok (.getfield 148, 3) := by decide +kernel
theorem dX8_torn_10 : decode cX8_torn 10 = .ok (.istore 4, 2) := by decide +kernel
theorem dX8_torn_12 : decode cX8_torn 12 = .ok (.aload_n 3, 1) := by decide +kernel
theorem dX8_torn_13 : decode cX8_torn 13 = .ok (.iload_n 2, 1) := by decide +kernel
theorem dX8_torn_14 : decode cX8_torn 14 = .ok (.putfield 148, 3) := by decide +kernel
theorem dX8_torn_17 : decode cX8_torn 17 = .ok (.iload 4, 2) := by decide +kernel
theorem dX8_torn_19 : decode cX8_torn 19 = .ok (.ireturn, 1) := by decide +kernel
theorem dX8_run_0 : decode cX8_run 0 = .ok (.aload_n 0, 1) := by decide +kernel
theorem dX8_run_1 : decode cX8_run 1 = .ok (.getfield 30, 3) := by decide +kernel
theorem dX8_run_4 : decode cX8_run 4 = .ok (.aload_n 0, 1) := by decide +kernel
theorem dX8_run_5 : decode cX8_run 5 = .ok (.getfield 26, 3) := by decide +kernel
theorem dX8_run_8 : decode cX8_run 8 = .ok (.invokevirtual 151, 3) := by decide +kernel
theorem dX8_run_11 : decode cX8_run 11 = .ok (.aload_n 0, 1) := by decide +kernel
theorem dX8_run_12 : decode cX8_run 12 = .ok (.getfield 18, 3) := by decide +kernel
theorem dX8_run_15 : decode cX8_run 15 = .ok (.iconst 0, 1) := by decide +kernel
theorem dX8_run_16 : decode cX8_run 16 = .ok (.putfield 155, 3) := by decide +kernel
theorem dX8_run_19 : decode cX8_run 19 = .ok (.iconst 0, 1) := by decide +kernel
theorem dX8_run_20 : decode cX8_run 20 = .ok (.istore_n 1, 1) := by decide +kernel
theorem dX8_run_21 : decode cX8_run 21 = .ok (.iload_n 1, 1) := by decide +kernel
theorem dX8_run_22 : decode cX8_run 22 = .ok (.aload_n 0, 1) := by decide +kernel
theorem dX8_run_23 : decode cX8_run 23 = .ok (.getfield 40, 3) := by decide +kernel
theorem dX8_run_26 : decode cX8_run 26 = .ok (.if_icmp .ge 19, 3) := by decide +kernel
theorem dX8_run_29 : decode cX8_run 29 = .ok (.aload_n 0, 1) := by decide +kernel
theorem dX8_run_30 : decode cX8_run 30 = .ok (.getfield 11, 3) := by decide +kernel
theorem dX8_run_33 : decode cX8_run 33 = .ok (.iload_n 1, 1) := by decide +kernel
theorem dX8_run_34 : decode cX8_run 34 = .ok (.aaload, 1) := by decide +kernel
theorem dX8_run_35 : decode cX8_run 35 = .ok (.iconst (-1), 1) := by decide +kernel
theorem dX8_run_36 : decode cX8_run 36 = .ok (.putfield 158, 3) := by decide +kernel
theorem dX8_run_39 : decode cX8_run 39 = .ok (.iinc 1 1, 3) := by decide +kernel
theorem dX8_run_42 : decode cX8_run 42 = .ok (.goto (-21), 3) := by decide +kernel
theorem dX8_run_45 : decode cX8_run 45 = .ok (.iconst 0, 1) := by decide +kernel
theorem dX8_run_46 : decode cX8_run 46 = .ok (.istore_n 1, 1) := by decide +kernel
theorem dX8_run_47 : decode cX8_run 47 = .ok (.iload_n 1, 1) := by decide +kernel
theorem dX8_run_48 : decode cX8_run 48 = .ok (.aload_n 0, 1) := by decide +kernel
theorem dX8_run_49 : decode cX8_run 49 = .ok (.getfield 40, 3) := by decide +kernel
theorem dX8_run_52 : decode cX8_run 52 = .ok (.if_icmp .ge 65, 3) := by decide +kernel
theorem dX8_run_55 : decode cX8_run 55 = .ok (.aload_n 0, 1) := by decide +kernel
theorem dX8_run_56 : decode cX8_run 56 = .ok (.getfield 18, 3) := by decide +kernel
theorem dX8_run_59 : decode cX8_run 59 = .ok (.aload_n 0, 1) := by decide +kernel
theorem dX8_run_60 : decode cX8_run 60 = .ok (.getfield 11, 3) := by decide +kernel
theorem dX8_run_63 : decode cX8_run 63 = .ok (.iload_n 1, 1) := by decide +kernel
theorem dX8_run_64 : decode cX8_run 64 = .ok (.aaload, 1) := by decide +kernel
theorem dX8_run_65 : decode cX8_run 65 = .ok (.invokevirtual 161, 3) := by decide +kernel
theorem dX8_run_68 : decode cX8_run 68 = .ok (.istore_n 2, 1) := by decide +kernel
theorem dX8_run_69 : decode cX8_run 69 = .ok (.iload_n 2, 1) := by decide +kernel
theorem dX8_run_70 : decode cX8_run 70 = .ok (.ifCond .eq 41, 3) := by decide +kernel
theorem dX8_run_73 : decode cX8_run 73 = .ok (.aload_n 0, 1) := by decide +kernel
theorem dX8_run_74 : decode cX8_run 74 = .ok (.getfield 11, 3) := by decide +kernel
theorem dX8_run_77 : decode cX8_run 77 = .ok (.iload_n 1, 1) := by decide +kernel
theorem dX8_run_78 : decode cX8_run 78 = .ok (.aaload, 1) := by decide +kernel
theorem dX8_run_79 : decode cX8_run 79 = .ok (.iload_n 2, 1) := by decide +kernel
theorem dX8_run_80 : decode cX8_run 80 = .ok (.invokestatic 165, 3) := by decide +kernel
theorem dX8_run_83 : decode cX8_run 83 = .ok (.ifCond .ne 28, 3) := by decide +kernel
theorem dX8_run_86 : decode cX8_run 86 = .ok (.aload_n 0, 1) := by decide +kernel
theorem dX8_run_87 : decode cX8_run 87 = .ok (.getfield 26, 3) := by decide +kernel
theorem dX8_run_90 : decode cX8_run 90 = .ok (.aload_n 0, 1) := by decide +kernel
theorem dX8_run_91 : decode cX8_run 91 = .ok (.getfield 30, 3) := by decide +kernel
theorem dX8_run_94 : decode cX8_run 94 = .ok (.invokevirtual 151, 3) := by decide +kernel
theorem dX8_run_97 : decode cX8_run 97 = .ok (.aload_n 0, 1) := by decide +kernel
theorem dX8_run_98 : decode cX8_run 98 = .ok (.iload_n 1, 1) := by decide +kernel
theorem dX8_run_99 : decode cX8_run 99 = .ok (.putfield 44, 3) := by decide +kernel
theorem dX8_run_102 : decode cX8_run 102 = .ok (.aload_n 0, 1) := by decide +kernel
theorem dX8_run_103 : decode cX8_run 103 = .ok (.iconst 0, 1) := by decide +kernel
theorem dX8_run_104 : decode cX8_run 104 = .ok (.putfield 47, 3) := by decide +kernel
theorem dX8_run_107 : decode cX8_run 107 = .ok (.iconst (-1), 1) := by decide +kernel
theorem dX8_run_108 : decode cX8_run 108 = .ok (.iload_n 2, 1) := by decide +kernel
theorem dX8_run_109 : decode cX8_run 109 = .ok (.isub, 1) := by decide +kernel
theorem dX8_run_110 : decode cX8_run 110 = .ok (.ireturn, 1) := by decide +kernel
theorem dX8_run_111 : decode cX8_run 111 = .ok (.iinc 1 1, 3) := by decide +kernel
theorem dX8_run_114 : decode cX8_run 114 = .ok (.goto (-67), 3) := by decide +kernel
theorem dX8_run_117 : decode cX8_run 117 = .ok (.aload_n 0, 1) := by decide +kernel
theorem dX8_run_118 : decode cX8_run 118 = .ok (.iconst (-1), 1) := by decide +kernel
theorem dX8_run_119 : decode cX8_run 119 = .ok (.putfield 44, 3) := by decide +kernel
theorem dX8_run_122 : decode cX8_run 122 = .ok (.aload_n 0, 1) := by decide +kernel
theorem dX8_run_123 : decode cX8_run 123 = .ok (.aload_n 0, 1) := by decide +kernel
theorem dX8_run_124 : decode cX8_run 124 = .ok (.getfield 18, 3) := by decide +kernel
theorem dX8_run_127 : decode cX8_run 127 = .ok (.getfield 155, 3) := by decide +kernel
theorem dX8_run_130 : decode cX8_run 130 = .ok (.putfield 47, 3) := by decide +kernel
theorem dX8_run_133 : decode cX8_run 133 = .ok (.aload_n 0, 1) := by decide +kernel
theorem dX8_run_134 : decode cX8_run 134 = .ok (.getfield 36, 3) := by decide +kernel
theorem dX8_run_137 : decode cX8_run 137 = .ok (.aload_n 0, 1) := by decide +kernel
theorem dX8_run_138 : decode cX8_run 138 = .ok (.getfield 30, 3) := by decide +kernel
theorem dX8_run_141 : decode cX8_run 141 = .ok (.aload_n 0, 1) := by decide +kernel
theorem dX8_run_142 : decode cX8_run 142 = .ok (.getfield 26, 3) := by decide +kernel
theorem dX8_run_145 : decode cX8_run 145 = .ok (.invokevirtual 169, 3) := by decide +kernel
theorem dX8_run_148 : decode cX8_run 148 = .ok (.aload_n 0, 1) := by decide +kernel
theorem dX8_run_149 : decode cX8_run 149 = .ok (.getfield 36, 3) := by decide +kernel
theorem dX8_run_152 : decode cX8_run 152 = .ok (.getfield 173, 3) := by decide +kernel
theorem dX8_run_155 : decode cX8_run 155 = .ok (.ireturn, 1) := by decide +kernel
theorem dX8_fails_0 : decode cX8_fails 0 = .ok (.aload_n 0, 1) := by decide +kernel
theorem dX8_fails_1 : decode cX8_fails 1 = .ok (.getfield 44, 3) := by decide +kernel
theorem dX8_fails_4 : decode cX8_fails 4 = .ok (.ireturn, 1) := by decide +kernel
theorem dX8_clear_0 : decode cX8_clear 0 = .ok (.aload_n 0, 1) := by decide +kernel
theorem dX8_clear_1 : decode cX8_clear 1 = .ok (.getfield 40, 3) := by decide +kernel
theorem dX8_clear_4 : decode cX8_clear 4 = .ok (.istore_n 1, 1) := by decide +kernel
theorem dX8_clear_5 : decode cX8_clear 5 = .ok (.aload_n 0, 1) := by decide +kernel
theorem dX8_clear_6 : decode cX8_clear 6 = .ok (.iconst 0, 1) := by decide +kernel
theorem dX8_clear_7 : decode cX8_clear 7 = .ok (.putfield 40, 3) := by decide +kernel
theorem dX8_clear_10 : decode cX8_clear 10 = .ok (.iload_n 1, 1) := by decide +kernel
theorem dX8_clear_11 : decode cX8_clear 11 = .ok (.ireturn, 1) := by decide +kernel
theorem dX8_many_0 : decode cX8_many 0 = .ok (.aload_n 0, 1) := by decide +kernel
theorem dX8_many_1 : decode cX8_many 1 = .ok (.iload_n 1, 1) := by decide +kernel
theorem dX8_many_2 : decode cX8_many 2 = .ok (.invokevirtual 176, 3) := by decide +kernel
theorem dX8_many_5 : decode cX8_many 5 = .ok (.astore_n 2, 1) := by decide +kernel
theorem dX8_many_6 : decode cX8_many 6 = .ok (.aload_n 2, 1) := by decide +kernel
theorem dX8_many_7 : decode cX8_many 7 = .ok (.getfield 180, 3) := by decide +kernel
theorem dX8_many_10 : decode cX8_many 10 = .ok (.ifCond .eq 10, 3) := by decide +kernel
theorem dX8_many_13 : decode cX8_many 13 = .ok (.aload_n 2, 1) := by decide +kernel
theorem dX8_many_14 : decode cX8_many 14 = .ok (.getfield 185, 3) := by decide +kernel
theorem dX8_many_17 : decode cX8_many 17 = .ok (.goto 4, 3) := by decide +kernel
theorem dX8_many_20 : decode cX8_many 20 = .ok (.iconst (-1), 1) := by decide +kernel
theorem dX8_many_21 : decode cX8_many 21 = .ok (.ireturn, 1) := by decide +kernel
theorem dX8_at_0 : decode cX8_at 0 = .ok (.aload_n 0, 1) := by decide +kernel
theorem dX8_at_1 : decode cX8_at 1 = .ok (.iload_n 1, 1) := by decide +kernel
theorem dX8_at_2 : decode cX8_at 2 = .ok (.invokevirtual 176, 3) := by decide +kernel
theorem dX8_at_5 : decode cX8_at 5 = .ok (.astore 4, 2) := by decide +kernel
theorem dX8_at_7 : decode cX8_at 7 = .ok (.iload_n 2, 1) := by decide +kernel
theorem dX8_at_8 : decode cX8_at 8 = .ok (.ifCond .lt 12, 3) := by decide +kernel
theorem dX8_at_11 : decode cX8_at 11 = .ok (.iload_n 2, 1) := by decide +kernel
theorem dX8_at_12 : decode cX8_at 12 = .ok (.aload 4, 2) := by decide +kernel
theorem dX8_at_14 : decode cX8_at 14 = .ok (.getfield 185, 3) := by decide +kernel
theorem dX8_at_17 : decode cX8_at 17 = .ok (.if_icmp .lt 13, 3) := by decide +kernel
theorem dX8_at_20 : decode cX8_at 20 = .ok (.new 188, 3) := by decide +kernel
theorem dX8_at_23 : decode cX8_at 23 = .ok (.dup, 1) := by decide +kernel
theorem dX8_at_24 : decode cX8_at 24 = .ok (.ldc 190, 2) := by decide +kernel
theorem dX8_at_26 : decode cX8_at 26 = .ok (.invokespecial 192, 3) := by decide +kernel
theorem dX8_at_29 : decode cX8_at 29 = .ok (.athrow, 1) := by decide +kernel
theorem dX8_at_30 : decode cX8_at 30 = .ok (.iload_n 3, 1) := by decide +kernel
theorem dX8_at_31 : decode cX8_at 31 = .ok (.ifCond .lt 8, 3) := by decide +kernel
theorem dX8_at_34 : decode cX8_at 34 = .ok (.iload_n 3, 1) := by decide +kernel
theorem dX8_at_35 : decode cX8_at 35 = .ok (.iconst 2, 1) := by decide +kernel
theorem dX8_at_36 : decode cX8_at 36 = .ok (.if_icmp .le 13, 3) := by decide +kernel
theorem dX8_at_39 : decode cX8_at 39 = .ok (.new 58, 3) := by decide +kernel
theorem dX8_at_42 : decode cX8_at 42 = .ok (.dup, 1) := by decide +kernel
theorem dX8_at_43 : decode cX8_at 43 = .ok (.ldc 193, 2) := by decide +kernel
theorem dX8_at_45 : decode cX8_at 45 = .ok (.invokespecial 62, 3) := by decide +kernel
theorem dX8_at_48 : decode cX8_at 48 = .ok (.athrow, 1) := by decide +kernel
theorem dX8_at_49 : decode cX8_at 49 = .ok (.aload 4, 2) := by decide +kernel
theorem dX8_at_51 : decode cX8_at 51 = .ok (.getfield 195, 3) := by decide +kernel
theorem dX8_at_54 : decode cX8_at 54 = .ok (.iload_n 2, 1) := by decide +kernel
theorem dX8_at_55 : decode cX8_at 55 = .ok (.iaload, 1) := by decide +kernel
theorem dX8_at_56 : decode cX8_at 56 = .ok (.iload_n 3, 1) := by decide +kernel
theorem dX8_at_57 : decode cX8_at 57 = .ok (.invokestatic 199, 3) := by decide +kernel
theorem dX8_at_60 : decode cX8_at 60 = .ok (.ireturn, 1) := by decide +kernel
theorem dX8_has_0 : decode cX8_has 0 = .ok (.aload_n 0, 1) := by decide +kernel
theorem dX8_has_1 : decode cX8_has 1 = .ok (.iload_n 1, 1) := by decide +kernel
theorem dX8_has_2 : decode cX8_has 2 = .ok (.invokevirtual 176, 3) := by decide +kernel
theorem dX8_has_5 : decode cX8_has 5 = .ok (.astore 5, 2) := by decide +kernel
theorem dX8_has_7 : decode cX8_has 7 = .ok (.iload_n 2, 1) := by decide +kernel
theorem dX8_has_8 : decode cX8_has 8 = .ok (.invokestatic 203, 3) := by decide +kernel
theorem dX8_has_11 : decode cX8_has 11 = .ok (.ifCond .eq 37, 3) := by decide +kernel
theorem dX8_has_14 : decode cX8_has 14 = .ok (.iload_n 3, 1) := by decide +kernel
theorem dX8_has_15 : decode cX8_has 15 = .ok (.invokestatic 203, 3) := by decide +kernel
theorem dX8_has_18 : decode cX8_has 18 = .ok (.ifCond .eq 30, 3) := by decide +kernel
theorem dX8_has_21 : decode cX8_has 21 = .ok (.iload 4, 2) := by decide +kernel
theorem dX8_has_23 : decode cX8_has 23 = .ok (.invokestatic 203, 3) := by decide +kernel
theorem dX8_has_26 : decode cX8_has 26 = .ok (.ifCond .eq 22, 3) := by decide +kernel
theorem dX8_has_29 : decode cX8_has 29 = .ok (.aload 5, 2) := by decide +kernel
theorem dX8_has_31 : decode cX8_has 31 = .ok (.iload_n 2, 1) := by decide +kernel
theorem dX8_has_32 : decode cX8_has 32 = .ok (.iload_n 3, 1) := by decide +kernel
theorem dX8_has_33 : decode cX8_has 33 = .ok (.iload 4, 2) := by decide +kernel
theorem dX8_has_35 : decode cX8_has 35 = .ok (.invokestatic 206, 3) := by decide +kernel
theorem dX8_has_38 : decode cX8_has 38 = .ok (.invokevirtual 209, 3) := by decide +kernel
theorem dX8_has_41 : decode cX8_has 41 = .ok (.ifCond .eq 7, 3) := by decide +kernel
theorem dX8_has_44 : decode cX8_has 44 = .ok (.iconst 1, 1) := by decide +kernel
theorem dX8_has_45 : decode cX8_has 45 = .ok (.goto 4, 3) := by decide +kernel
theorem dX8_has_48 : decode cX8_has 48 = .ok (.iconst 0, 1) := by decide +kernel
theorem dX8_has_49 : decode cX8_has 49 = .ok (.ireturn, 1) := by decide +kernel
theorem dX8_changed_0 : decode cX8_changed 0 = .ok (.iload_n 1, 1) := by decide +kernel
theorem dX8_changed_1 : decode cX8_changed 1 = .ok (.ifCond .lt 14, 3) := by decide +kernel
theorem dX8_changed_4 : decode cX8_changed 4 = .ok (.iload_n 1, 1) := by decide +kernel
theorem dX8_changed_5 : decode cX8_changed 5 = .ok (.aload_n 0, 1) := by decide +kernel
theorem dX8_changed_6 : decode cX8_changed 6 = .ok (.getfield 36, 3) := by decide +kernel
theorem dX8_changed_9 : decode cX8_changed 9 = .ok (.getfield 173, 3) := by decide +kernel
theorem dX8_changed_12 : decode cX8_changed 12 = .ok (.if_icmp .lt 13, 3) := by decide +kernel
theorem dX8_changed_15 : decode cX8_changed 15 = .ok (.new 188, 3) := by decide +kernel
theorem dX8_changed_18 : decode cX8_changed 18 = .ok (.dup, 1) := by decide +kernel
theorem dX8_changed_19 : decode cX8_changed 19 = .ok (.ldc 212, 2) := by decide +kernel
theorem dX8_changed_21 : decode cX8_changed 21 = .ok (.invokespecial 192, 3) := by decide +kernel
theorem dX8_changed_24 : decode cX8_changed 24 = .ok (.athrow, 1) := by decide +kernel
theorem dX8_changed_25 : decode cX8_changed 25 = .ok (.iload_n 2, 1) := by decide +kernel
theorem dX8_changed_26 : decode cX8_changed 26 = .ok (.ifCond .lt 8, 3) := by decide +kernel
theorem dX8_changed_29 : decode cX8_changed 29 = .ok (.iload_n 2, 1) := by decide +kernel
theorem dX8_changed_30 : decode cX8_changed 30 = .ok (.iconst 4, 1) := by decide +kernel
theorem dX8_changed_31 : decode cX8_changed 31 = .ok (.if_icmp .le 13, 3) := by decide +kernel
theorem dX8_changed_34 : decode cX8_changed 34 = .ok (.new 58, 3) := by decide +kernel
theorem dX8_changed_37 : decode cX8_changed 37 = .ok (.dup, 1) := by decide +kernel
theorem dX8_changed_38 : decode cX8_changed 38 = .ok (.ldc 214, 2) := by decide +kernel
theorem dX8_changed_40 : decode cX8_changed 40 = .ok (.invokespecial 62, 3) := by decide +kernel
theorem dX8_changed_43 : decode cX8_changed 43 = .ok (.athrow, 1) := by decide +kernel
theorem dX8_changed_44 : decode cX8_changed 44 = .ok (.iload_n 2, 1) := by decide +kernel
theorem dX8_changed_45 : decode cX8_changed 45 = .ok (.ifCond .ne 13, 3) := by decide +kernel
theorem dX8_changed_48 : decode cX8_changed 48 = .ok (.aload_n 0, 1) := by decide +kernel
theorem dX8_changed_49 : decode cX8_changed 49 = .ok (.getfield 36, 3) := by decide +kernel
theorem dX8_changed_52 : decode cX8_changed 52 = .ok (.getfield 216, 3) := by decide +kernel
theorem dX8_changed_55 : decode cX8_changed 55 = .ok (.iload_n 1, 1) := by decide +kernel
theorem dX8_changed_56 : decode cX8_changed 56 = .ok (.iaload, 1) := by decide +kernel
theorem dX8_changed_57 : decode cX8_changed 57 = .ok (.ireturn, 1) := by decide +kernel
theorem dX8_changed_58 : decode cX8_changed 58 = .ok (.iload_n 2, 1) := by decide +kernel
theorem dX8_changed_59 : decode cX8_changed 59 = .ok (.iconst 4, 1) := by decide +kernel
theorem dX8_changed_60 : decode cX8_changed 60 = .ok (.if_icmp .ne 15, 3) := by decide +kernel
theorem dX8_changed_63 : decode cX8_changed 63 = .ok (.aload_n 0, 1) := by decide +kernel
theorem dX8_changed_64 : decode cX8_changed 64 = .ok (.getfield 36, 3) := by decide +kernel
theorem dX8_changed_67 : decode cX8_changed 67 = .ok (.getfield 219, 3) := by decide +kernel
theorem dX8_changed_70 : decode cX8_changed 70 = .ok (.iload_n 1, 1) := by decide +kernel
theorem dX8_changed_71 : decode cX8_changed 71 = .ok (.iaload, 1) := by decide +kernel
theorem dX8_changed_72 : decode cX8_changed 72 = .ok (.goto 18, 3) := by decide +kernel
theorem dX8_changed_75 : decode cX8_changed 75 = .ok (.aload_n 0, 1) := by decide +kernel
theorem dX8_changed_76 : decode cX8_changed 76 = .ok (.getfield 36, 3) := by decide +kernel
theorem dX8_changed_79 : decode cX8_changed 79 = .ok (.getfield 222, 3) := by decide +kernel
theorem dX8_changed_82 : decode cX8_changed 82 = .ok (.iload_n 1, 1) := by decide +kernel
theorem dX8_changed_83 : decode cX8_changed 83 = .ok (.iaload, 1) := by decide +kernel
theorem dX8_changed_84 : decode cX8_changed 84 = .ok (.iload_n 2, 1) := by decide +kernel
theorem dX8_changed_85 : decode cX8_changed 85 = .ok (.iconst 1, 1) := by decide +kernel
theorem dX8_changed_86 : decode cX8_changed 86 = .ok (.isub, 1) := by decide +kernel
theorem dX8_changed_87 : decode cX8_changed 87 = .ok (.invokestatic 199, 3) := by decide +kernel
theorem dX8_changed_90 : decode cX8_changed 90 = .ok (.ireturn, 1) := by decide +kernel
theorem dX8_solutions_0 : decode cX8_solutions 0 = .ok (.aload_n 0, 1) := by decide +kernel
theorem dX8_solutions_1 : decode cX8_solutions 1 = .ok (.iload_n 1, 1) := by decide +kernel
theorem dX8_solutions_2 : decode cX8_solutions 2 = .ok (.invokevirtual 78, 3) := by decide +kernel
theorem dX8_solutions_5 : decode cX8_solutions 5 = .ok (.getfield 158, 3) := by decide +kernel
theorem dX8_solutions_8 : decode cX8_solutions 8 = .ok (.ireturn, 1) := by decide +kernel
theorem dX8_told_0 : decode cX8_told 0 = .ok (.iload_n 1, 1) := by decide +kernel
theorem dX8_told_1 : decode cX8_told 1 = .ok (.tableswitch 69 0 4 #[35, 40, 48, 56, 64], 35) := by decide +kernel
theorem dX8_told_36 : decode cX8_told 36 = .ok (.aload_n 0, 1) := by decide +kernel
theorem dX8_told_37 : decode cX8_told 37 = .ok (.getfield 40, 3) := by decide +kernel
theorem dX8_told_40 : decode cX8_told 40 = .ok (.ireturn, 1) := by decide +kernel
theorem dX8_told_41 : decode cX8_told 41 = .ok (.aload_n 0, 1) := by decide +kernel
theorem dX8_told_42 : decode cX8_told 42 = .ok (.getfield 26, 3) := by decide +kernel
theorem dX8_told_45 : decode cX8_told 45 = .ok (.invokevirtual 225, 3) := by decide +kernel
theorem dX8_told_48 : decode cX8_told 48 = .ok (.ireturn, 1) := by decide +kernel
theorem dX8_told_49 : decode cX8_told 49 = .ok (.aload_n 0, 1) := by decide +kernel
theorem dX8_told_50 : decode cX8_told 50 = .ok (.getfield 26, 3) := by decide +kernel
theorem dX8_told_53 : decode cX8_told 53 = .ok (.getfield 229, 3) := by decide +kernel
theorem dX8_told_56 : decode cX8_told 56 = .ok (.ireturn, 1) := by decide +kernel
theorem dX8_told_57 : decode cX8_told 57 = .ok (.aload_n 0, 1) := by decide +kernel
theorem dX8_told_58 : decode cX8_told 58 = .ok (.getfield 36, 3) := by decide +kernel
theorem dX8_told_61 : decode cX8_told 61 = .ok (.getfield 173, 3) := by decide +kernel
theorem dX8_told_64 : decode cX8_told 64 = .ok (.ireturn, 1) := by decide +kernel
theorem dX8_told_65 : decode cX8_told 65 = .ok (.aload_n 0, 1) := by decide +kernel
theorem dX8_told_66 : decode cX8_told 66 = .ok (.getfield 47, 3) := by decide +kernel
theorem dX8_told_69 : decode cX8_told 69 = .ok (.ireturn, 1) := by decide +kernel
theorem dX8_told_70 : decode cX8_told 70 = .ok (.new 58, 3) := by decide +kernel
theorem dX8_told_73 : decode cX8_told 73 = .ok (.dup, 1) := by decide +kernel
theorem dX8_told_74 : decode cX8_told 74 = .ok (.ldc 232, 2) := by decide +kernel
theorem dX8_told_76 : decode cX8_told 76 = .ok (.invokespecial 62, 3) := by decide +kernel
theorem dX8_told_79 : decode cX8_told 79 = .ok (.athrow, 1) := by decide +kernel
theorem dX8_stepNumbered_0 : decode cX8_stepNumbered 0 = .ok (.iload_n 1, 1) := by decide +kernel
theorem dX8_stepNumbered_1 : decode cX8_stepNumbered 1 = .ok (.ifCond .lt 11, 3) := by decide +kernel
theorem dX8_stepNumbered_4 : decode cX8_stepNumbered 4 = .ok (.iload_n 1, 1) := by decide +kernel
theorem dX8_stepNumbered_5 : decode cX8_stepNumbered 5 = .ok (.aload_n 0, 1) := by decide +kernel
theorem dX8_stepNumbered_6 : decode cX8_stepNumbered 6 = .ok (.getfield 40, 3) := by decide +kernel
theorem dX8_stepNumbered_9 : decode cX8_stepNumbered 9 = .ok (.if_icmp .lt 13, 3) := by decide +kernel
theorem dX8_stepNumbered_12 : decode cX8_stepNumbered 12 = .ok (.new 188, 3) := by decide +kernel
theorem dX8_stepNumbered_15 : decode cX8_stepNumbered 15 = .ok (.dup, 1) := by decide +kernel
theorem dX8_stepNumbered_16 : decode cX8_stepNumbered 16 = .ok (.ldc 234, 2) := by decide +kernel
theorem dX8_stepNumbered_18 : decode cX8_stepNumbered 18 = .ok (.invokespecial 192, 3) := by decide +kernel
theorem dX8_stepNumbered_21 : decode cX8_stepNumbered 21 = .ok (.athrow, 1) := by decide +kernel
theorem dX8_stepNumbered_22 : decode cX8_stepNumbered 22 = .ok (.aload_n 0, 1) := by decide +kernel
theorem dX8_stepNumbered_23 : decode cX8_stepNumbered 23 = .ok (.getfield 11, 3) := by decide +kernel
theorem dX8_stepNumbered_26 : decode cX8_stepNumbered 26 = .ok (.iload_n 1, 1) := by decide +kernel
theorem dX8_stepNumbered_27 : decode cX8_stepNumbered 27 = .ok (.aaload, 1) := by decide +kernel
theorem dX8_stepNumbered_28 : decode cX8_stepNumbered 28 = .ok (.areturn, 1) := by decide +kernel
theorem dX8_fileNumbered_0 : decode cX8_fileNumbered 0 = .ok (.iload_n 1, 1) := by decide +kernel
theorem dX8_fileNumbered_1 : decode cX8_fileNumbered 1 = .ok (.ifCond .lt 8, 3) := by decide +kernel
theorem dX8_fileNumbered_4 : decode cX8_fileNumbered 4 = .ok (.iload_n 1, 1) := by decide +kernel
theorem dX8_fileNumbered_5 : decode cX8_fileNumbered 5 = .ok (.iconst 4, 1) := by decide +kernel
theorem dX8_fileNumbered_6 : decode cX8_fileNumbered 6 = .ok (.if_icmp .lt 13, 3) := by decide +kernel
theorem dX8_fileNumbered_9 : decode cX8_fileNumbered 9 = .ok (.new 188, 3) := by decide +kernel
theorem dX8_fileNumbered_12 : decode cX8_fileNumbered 12 = .ok (.dup, 1) := by decide +kernel
theorem dX8_fileNumbered_13 : decode cX8_fileNumbered 13 = .ok (.ldc 236, 2) := by decide +kernel
theorem dX8_fileNumbered_15 : decode cX8_fileNumbered 15 = .ok (.invokespecial 192, 3) := by decide +kernel
theorem dX8_fileNumbered_18 : decode cX8_fileNumbered 18 = .ok (.athrow, 1) := by decide +kernel
theorem dX8_fileNumbered_19 : decode cX8_fileNumbered 19 = .ok (.aload_n 0, 1) := by decide +kernel
theorem dX8_fileNumbered_20 : decode cX8_fileNumbered 20 = .ok (.getfield 18, 3) := by decide +kernel
theorem dX8_fileNumbered_23 : decode cX8_fileNumbered 23 = .ok (.getfield 238, 3) := by decide +kernel
theorem dX8_fileNumbered_26 : decode cX8_fileNumbered 26 = .ok (.iload_n 1, 1) := by decide +kernel
theorem dX8_fileNumbered_27 : decode cX8_fileNumbered 27 = .ok (.aaload, 1) := by decide +kernel
theorem dX8_fileNumbered_28 : decode cX8_fileNumbered 28 = .ok (.areturn, 1) := by decide +kernel
theorem dX8_graphNumbered_0 : decode cX8_graphNumbered 0 = .ok (.iload_n 1, 1) := by decide +kernel
theorem dX8_graphNumbered_1 : decode cX8_graphNumbered 1 = .ok (.invokestatic 242, 3) := by decide +kernel
theorem dX8_graphNumbered_4 : decode cX8_graphNumbered 4 = .ok (.ifCond .ne 13, 3) := by decide +kernel
theorem dX8_graphNumbered_7 : decode cX8_graphNumbered 7 = .ok (.new 188, 3) := by decide +kernel
theorem dX8_graphNumbered_10 : decode cX8_graphNumbered 10 = .ok (.dup, 1) := by decide +kernel
theorem dX8_graphNumbered_11 : decode cX8_graphNumbered 11 = .ok (.ldc 245, 2) := by decide +kernel
theorem dX8_graphNumbered_13 : decode cX8_graphNumbered 13 = .ok (.invokespecial 192, 3) := by decide +kernel
theorem dX8_graphNumbered_16 : decode cX8_graphNumbered 16 = .ok (.athrow, 1) := by decide +kernel
theorem dX8_graphNumbered_17 : decode cX8_graphNumbered 17 = .ok (.aload_n 0, 1) := by decide +kernel
theorem dX8_graphNumbered_18 : decode cX8_graphNumbered 18 = .ok (.getfield 26, 3) := by decide +kernel
theorem dX8_graphNumbered_21 : decode cX8_graphNumbered 21 = .ok (.getfield 247, 3) := by decide +kernel
theorem dX8_graphNumbered_24 : decode cX8_graphNumbered 24 = .ok (.iload_n 1, 1) := by decide +kernel
theorem dX8_graphNumbered_25 : decode cX8_graphNumbered 25 = .ok (.aaload, 1) := by decide +kernel
theorem dX8_graphNumbered_26 : decode cX8_graphNumbered 26 = .ok (.areturn, 1) := by decide +kernel
theorem dX8_isGraph_0 : decode cX8_isGraph 0 = .ok (.iload_n 0, 1) := by decide +kernel
theorem dX8_isGraph_1 : decode cX8_isGraph 1 = .ok (.ifCond .lt 13, 3) := by decide +kernel
theorem dX8_isGraph_4 : decode cX8_isGraph 4 = .ok (.iload_n 0, 1) := by decide +kernel
theorem dX8_isGraph_5 : decode cX8_isGraph 5 = .ok (.bipush 7, 2) := by decide +kernel
theorem dX8_isGraph_7 : decode cX8_isGraph 7 = .ok (.if_icmp .ge 7, 3) := by decide +kernel
theorem dX8_isGraph_10 : decode cX8_isGraph 10 = .ok (.iconst 1, 1) := by decide +kernel
theorem dX8_isGraph_11 : decode cX8_isGraph 11 = .ok (.goto 4, 3) := by decide +kernel
theorem dX8_isGraph_14 : decode cX8_isGraph 14 = .ok (.iconst 0, 1) := by decide +kernel
theorem dX8_isGraph_15 : decode cX8_isGraph 15 = .ok (.ireturn, 1) := by decide +kernel
theorem dX8_fromCounts_0 : decode cX8_fromCounts 0 = .ok (.iload_n 0, 1) := by decide +kernel
theorem dX8_fromCounts_1 : decode cX8_fromCounts 1 = .ok (.iconst 2, 1) := by decide +kernel
theorem dX8_fromCounts_2 : decode cX8_fromCounts 2 = .ok (.if_icmp .eq 9, 3) := by decide +kernel
theorem dX8_fromCounts_5 : decode cX8_fromCounts 5 = .ok (.iload_n 0, 1) := by decide +kernel
theorem dX8_fromCounts_6 : decode cX8_fromCounts 6 = .ok (.bipush 6, 2) := by decide +kernel
theorem dX8_fromCounts_8 : decode cX8_fromCounts 8 = .ok (.if_icmp .lt 7, 3) := by decide +kernel
theorem dX8_fromCounts_11 : decode cX8_fromCounts 11 = .ok (.iconst 1, 1) := by decide +kernel
theorem dX8_fromCounts_12 : decode cX8_fromCounts 12 = .ok (.goto 4, 3) := by decide +kernel
theorem dX8_fromCounts_15 : decode cX8_fromCounts 15 = .ok (.iconst 0, 1) := by decide +kernel
theorem dX8_fromCounts_16 : decode cX8_fromCounts 16 = .ok (.ireturn, 1) := by decide +kernel
theorem dX8_fromMayBe_0 : decode cX8_fromMayBe 0 = .ok (.iload_n 0, 1) := by decide +kernel
theorem dX8_fromMayBe_1 : decode cX8_fromMayBe 1 = .ok (.bipush 9, 2) := by decide +kernel
theorem dX8_fromMayBe_3 : decode cX8_fromMayBe 3 = .ok (.if_icmp .ne 18, 3) := by decide +kernel
theorem dX8_fromMayBe_6 : decode cX8_fromMayBe 6 = .ok (.iload_n 1, 1) := by decide +kernel
theorem dX8_fromMayBe_7 : decode cX8_fromMayBe 7 = .ok (.ifCond .lt 12, 3) := by decide +kernel
theorem dX8_fromMayBe_10 : decode cX8_fromMayBe 10 = .ok (.iload_n 1, 1) := by decide +kernel
theorem dX8_fromMayBe_11 : decode cX8_fromMayBe 11 = .ok (.iconst 4, 1) := by decide +kernel
theorem dX8_fromMayBe_12 : decode cX8_fromMayBe 12 = .ok (.if_icmp .ge 7, 3) := by decide +kernel
theorem dX8_fromMayBe_15 : decode cX8_fromMayBe 15 = .ok (.iconst 1, 1) := by decide +kernel
theorem dX8_fromMayBe_16 : decode cX8_fromMayBe 16 = .ok (.goto 4, 3) := by decide +kernel
theorem dX8_fromMayBe_19 : decode cX8_fromMayBe 19 = .ok (.iconst 0, 1) := by decide +kernel
theorem dX8_fromMayBe_20 : decode cX8_fromMayBe 20 = .ok (.ireturn, 1) := by decide +kernel
theorem dX8_fromMayBe_21 : decode cX8_fromMayBe 21 = .ok (.iload_n 0, 1) := by decide +kernel
theorem dX8_fromMayBe_22 : decode cX8_fromMayBe 22 = .ok (.invokestatic 70, 3) := by decide +kernel
theorem dX8_fromMayBe_25 : decode cX8_fromMayBe 25 = .ok (.ifCond .eq 10, 3) := by decide +kernel
theorem dX8_fromMayBe_28 : decode cX8_fromMayBe 28 = .ok (.iload_n 1, 1) := by decide +kernel
theorem dX8_fromMayBe_29 : decode cX8_fromMayBe 29 = .ok (.invokestatic 242, 3) := by decide +kernel
theorem dX8_fromMayBe_32 : decode cX8_fromMayBe 32 = .ok (.ifCond .eq 7, 3) := by decide +kernel
theorem dX8_fromMayBe_35 : decode cX8_fromMayBe 35 = .ok (.iconst 1, 1) := by decide +kernel
theorem dX8_fromMayBe_36 : decode cX8_fromMayBe 36 = .ok (.goto 4, 3) := by decide +kernel
theorem dX8_fromMayBe_39 : decode cX8_fromMayBe 39 = .ok (.iconst 0, 1) := by decide +kernel
theorem dX8_fromMayBe_40 : decode cX8_fromMayBe 40 = .ok (.ireturn, 1) := by decide +kernel
theorem dX8_toMayBe_0 : decode cX8_toMayBe 0 = .ok (.iload_n 1, 1) := by decide +kernel
theorem dX8_toMayBe_1 : decode cX8_toMayBe 1 = .ok (.iconst (-1), 1) := by decide +kernel
theorem dX8_toMayBe_2 : decode cX8_toMayBe 2 = .ok (.if_icmp .eq 9, 3) := by decide +kernel
theorem dX8_toMayBe_5 : decode cX8_toMayBe 5 = .ok (.iload_n 1, 1) := by decide +kernel
theorem dX8_toMayBe_6 : decode cX8_toMayBe 6 = .ok (.bipush (-2), 2) := by decide +kernel
theorem dX8_toMayBe_8 : decode cX8_toMayBe 8 = .ok (.if_icmp .ne 19, 3) := by decide +kernel
theorem dX8_toMayBe_11 : decode cX8_toMayBe 11 = .ok (.iload_n 0, 1) := by decide +kernel
theorem dX8_toMayBe_12 : decode cX8_toMayBe 12 = .ok (.iconst 3, 1) := by decide +kernel
theorem dX8_toMayBe_13 : decode cX8_toMayBe 13 = .ok (.if_icmp .eq 8, 3) := by decide +kernel
theorem dX8_toMayBe_16 : decode cX8_toMayBe 16 = .ok (.iload_n 0, 1) := by decide +kernel
theorem dX8_toMayBe_17 : decode cX8_toMayBe 17 = .ok (.iconst 5, 1) := by decide +kernel
theorem dX8_toMayBe_18 : decode cX8_toMayBe 18 = .ok (.if_icmp .ne 7, 3) := by decide +kernel
theorem dX8_toMayBe_21 : decode cX8_toMayBe 21 = .ok (.iconst 1, 1) := by decide +kernel
theorem dX8_toMayBe_22 : decode cX8_toMayBe 22 = .ok (.goto 4, 3) := by decide +kernel
theorem dX8_toMayBe_25 : decode cX8_toMayBe 25 = .ok (.iconst 0, 1) := by decide +kernel
theorem dX8_toMayBe_26 : decode cX8_toMayBe 26 = .ok (.ireturn, 1) := by decide +kernel
theorem dX8_toMayBe_27 : decode cX8_toMayBe 27 = .ok (.iload_n 1, 1) := by decide +kernel
theorem dX8_toMayBe_28 : decode cX8_toMayBe 28 = .ok (.invokestatic 242, 3) := by decide +kernel
theorem dX8_toMayBe_31 : decode cX8_toMayBe 31 = .ok (.ifCond .eq 16, 3) := by decide +kernel
theorem dX8_toMayBe_34 : decode cX8_toMayBe 34 = .ok (.iload_n 0, 1) := by decide +kernel
theorem dX8_toMayBe_35 : decode cX8_toMayBe 35 = .ok (.iconst 4, 1) := by decide +kernel
theorem dX8_toMayBe_36 : decode cX8_toMayBe 36 = .ok (.if_icmp .ne 7, 3) := by decide +kernel
theorem dX8_toMayBe_39 : decode cX8_toMayBe 39 = .ok (.iload_n 1, 1) := by decide +kernel
theorem dX8_toMayBe_40 : decode cX8_toMayBe 40 = .ok (.ifCond .eq 7, 3) := by decide +kernel
theorem dX8_toMayBe_43 : decode cX8_toMayBe 43 = .ok (.iconst 1, 1) := by decide +kernel
theorem dX8_toMayBe_44 : decode cX8_toMayBe 44 = .ok (.goto 4, 3) := by decide +kernel
theorem dX8_toMayBe_47 : decode cX8_toMayBe 47 = .ok (.iconst 0, 1) := by decide +kernel
theorem dX8_toMayBe_48 : decode cX8_toMayBe 48 = .ok (.ireturn, 1) := by decide +kernel
theorem dX8_templateMayBe_0 : decode cX8_templateMayBe 0 = .ok (.iload_n 0, 1) := by decide +kernel
theorem dX8_templateMayBe_1 : decode cX8_templateMayBe 1 = .ok (.iconst 2, 1) := by decide +kernel
theorem dX8_templateMayBe_2 : decode cX8_templateMayBe 2 = .ok (.if_icmp .eq 20, 3) := by decide +kernel
theorem dX8_templateMayBe_5 : decode cX8_templateMayBe 5 = .ok (.iload_n 0, 1) := by decide +kernel
theorem dX8_templateMayBe_6 : decode cX8_templateMayBe 6 = .ok (.ifCond .ne 7, 3) := by decide +kernel
theorem dX8_templateMayBe_9 : decode cX8_templateMayBe 9 = .ok (.iload_n 1, 1) := by decide +kernel
theorem dX8_templateMayBe_10 : decode cX8_templateMayBe 10 = .ok (.ifCond .ne 12, 3) := by decide +kernel
theorem dX8_templateMayBe_13 : decode cX8_templateMayBe 13 = .ok (.iload_n 0, 1) := by decide +kernel
theorem dX8_templateMayBe_14 : decode cX8_templateMayBe 14 = .ok (.iconst 1, 1) := by decide +kernel
theorem dX8_templateMayBe_15 : decode cX8_templateMayBe 15 = .ok (.if_icmp .ne 11, 3) := by decide +kernel
theorem dX8_templateMayBe_18 : decode cX8_templateMayBe 18 = .ok (.iload_n 1, 1) := by decide +kernel
theorem dX8_templateMayBe_19 : decode cX8_templateMayBe 19 = .ok (.ifCond .ne 7, 3) := by decide +kernel
theorem dX8_templateMayBe_22 : decode cX8_templateMayBe 22 = .ok (.iconst 1, 1) := by decide +kernel
theorem dX8_templateMayBe_23 : decode cX8_templateMayBe 23 = .ok (.goto 4, 3) := by decide +kernel
theorem dX8_templateMayBe_26 : decode cX8_templateMayBe 26 = .ok (.iconst 0, 1) := by decide +kernel
theorem dX8_templateMayBe_27 : decode cX8_templateMayBe 27 = .ok (.ireturn, 1) := by decide +kernel
theorem dX8_templateTermMayBe_0 : decode cX8_templateTermMayBe 0 = .ok (.iload_n 2, 1) := by decide +kernel
theorem dX8_templateTermMayBe_1 : decode cX8_templateTermMayBe 1 = .ok (.invokestatic 136, 3) := by decide +kernel
theorem dX8_templateTermMayBe_4 : decode cX8_templateTermMayBe 4 = .ok (.ifCond .ne 26, 3) := by decide +kernel
theorem dX8_templateTermMayBe_7 : decode cX8_templateTermMayBe 7 = .ok (.iload_n 2, 1) := by decide +kernel
theorem dX8_templateTermMayBe_8 : decode cX8_templateTermMayBe 8 = .ok (.invokestatic 251, 3) := by decide +kernel
theorem dX8_templateTermMayBe_11 : decode cX8_templateTermMayBe 11 = .ok (.ifCond .eq 8, 3) := by decide +kernel
theorem dX8_templateTermMayBe_14 : decode cX8_templateTermMayBe 14 = .ok (.iload_n 0, 1) := by decide +kernel
theorem dX8_templateTermMayBe_15 : decode cX8_templateTermMayBe 15 = .ok (.iconst 2, 1) := by decide +kernel
theorem dX8_templateTermMayBe_16 : decode cX8_templateTermMayBe 16 = .ok (.if_icmp .eq 14, 3) := by decide +kernel
theorem dX8_templateTermMayBe_19 : decode cX8_templateTermMayBe 19 = .ok (.iload_n 2, 1) := by decide +kernel
theorem dX8_templateTermMayBe_20 : decode cX8_templateTermMayBe 20 = .ok (.invokestatic 97, 3) := by decide +kernel
theorem dX8_templateTermMayBe_23 : decode cX8_templateTermMayBe 23 = .ok (.ifCond .eq 11, 3) := by decide +kernel
theorem dX8_templateTermMayBe_26 : decode cX8_templateTermMayBe 26 = .ok (.iload_n 1, 1) := by decide +kernel
theorem dX8_templateTermMayBe_27 : decode cX8_templateTermMayBe 27 = .ok (.ifCond .eq 7, 3) := by decide +kernel
theorem dX8_templateTermMayBe_30 : decode cX8_templateTermMayBe 30 = .ok (.iconst 1, 1) := by decide +kernel
theorem dX8_templateTermMayBe_31 : decode cX8_templateTermMayBe 31 = .ok (.goto 4, 3) := by decide +kernel
theorem dX8_templateTermMayBe_34 : decode cX8_templateTermMayBe 34 = .ok (.iconst 0, 1) := by decide +kernel
theorem dX8_templateTermMayBe_35 : decode cX8_templateTermMayBe 35 = .ok (.ireturn, 1) := by decide +kernel
theorem dX8_patternTermMayBe_0 : decode cX8_patternTermMayBe 0 = .ok (.iload_n 0, 1) := by decide +kernel
theorem dX8_patternTermMayBe_1 : decode cX8_patternTermMayBe 1 = .ok (.invokestatic 136, 3) := by decide +kernel
theorem dX8_patternTermMayBe_4 : decode cX8_patternTermMayBe 4 = .ok (.ifCond .ne 10, 3) := by decide +kernel
theorem dX8_patternTermMayBe_7 : decode cX8_patternTermMayBe 7 = .ok (.iload_n 0, 1) := by decide +kernel
theorem dX8_patternTermMayBe_8 : decode cX8_patternTermMayBe 8 = .ok (.invokestatic 251, 3) := by decide +kernel
theorem dX8_patternTermMayBe_11 : decode cX8_patternTermMayBe 11 = .ok (.ifCond .eq 7, 3) := by decide +kernel
theorem dX8_patternTermMayBe_14 : decode cX8_patternTermMayBe 14 = .ok (.iconst 1, 1) := by decide +kernel
theorem dX8_patternTermMayBe_15 : decode cX8_patternTermMayBe 15 = .ok (.goto 4, 3) := by decide +kernel
theorem dX8_patternTermMayBe_18 : decode cX8_patternTermMayBe 18 = .ok (.iconst 0, 1) := by decide +kernel
theorem dX8_patternTermMayBe_19 : decode cX8_patternTermMayBe 19 = .ok (.ireturn, 1) := by decide +kernel
theorem dX8_isName_0 : decode cX8_isName 0 = .ok (.iload_n 0, 1) := by decide +kernel
theorem dX8_isName_1 : decode cX8_isName 1 = .ok (.ifCond .lt 13, 3) := by decide +kernel
theorem dX8_isName_4 : decode cX8_isName 4 = .ok (.iload_n 0, 1) := by decide +kernel
theorem dX8_isName_5 : decode cX8_isName 5 = .ok (.bipush 100, 2) := by decide +kernel
theorem dX8_isName_7 : decode cX8_isName 7 = .ok (.if_icmp .ge 7, 3) := by decide +kernel
theorem dX8_isName_10 : decode cX8_isName 10 = .ok (.iconst 1, 1) := by decide +kernel
theorem dX8_isName_11 : decode cX8_isName 11 = .ok (.goto 4, 3) := by decide +kernel
theorem dX8_isName_14 : decode cX8_isName 14 = .ok (.iconst 0, 1) := by decide +kernel
theorem dX8_isName_15 : decode cX8_isName 15 = .ok (.ireturn, 1) := by decide +kernel
theorem dX8_isVariable_0 : decode cX8_isVariable 0 = .ok (.iload_n 0, 1) := by decide +kernel
theorem dX8_isVariable_1 : decode cX8_isVariable 1 = .ok (.iconst (-1), 1) := by decide +kernel
theorem dX8_isVariable_2 : decode cX8_isVariable 2 = .ok (.if_icmp .gt 13, 3) := by decide +kernel
theorem dX8_isVariable_5 : decode cX8_isVariable 5 = .ok (.iload_n 0, 1) := by decide +kernel
theorem dX8_isVariable_6 : decode cX8_isVariable 6 = .ok (.bipush (-5), 2) := by decide +kernel
theorem dX8_isVariable_8 : decode cX8_isVariable 8 = .ok (.if_icmp .le 7, 3) := by decide +kernel
theorem dX8_isVariable_11 : decode cX8_isVariable 11 = .ok (.iconst 1, 1) := by decide +kernel
theorem dX8_isVariable_12 : decode cX8_isVariable 12 = .ok (.goto 4, 3) := by decide +kernel
theorem dX8_isVariable_15 : decode cX8_isVariable 15 = .ok (.iconst 0, 1) := by decide +kernel
theorem dX8_isVariable_16 : decode cX8_isVariable 16 = .ok (.ireturn, 1) := by decide +kernel
theorem dX8_isNewBlank_0 : decode cX8_isNewBlank 0 = .ok (.iload_n 0, 1) := by decide +kernel
theorem dX8_isNewBlank_1 : decode cX8_isNewBlank 1 = .ok (.bipush (-11), 2) := by decide +kernel
theorem dX8_isNewBlank_3 : decode cX8_isNewBlank 3 = .ok (.if_icmp .gt 13, 3) := by decide +kernel
theorem dX8_isNewBlank_6 : decode cX8_isNewBlank 6 = .ok (.iload_n 0, 1) := by decide +kernel
theorem dX8_isNewBlank_7 : decode cX8_isNewBlank 7 = .ok (.bipush (-15), 2) := by decide +kernel
theorem dX8_isNewBlank_9 : decode cX8_isNewBlank 9 = .ok (.if_icmp .le 7, 3) := by decide +kernel
theorem dX8_isNewBlank_12 : decode cX8_isNewBlank 12 = .ok (.iconst 1, 1) := by decide +kernel
theorem dX8_isNewBlank_13 : decode cX8_isNewBlank 13 = .ok (.goto 4, 3) := by decide +kernel
theorem dX8_isNewBlank_16 : decode cX8_isNewBlank 16 = .ok (.iconst 0, 1) := by decide +kernel
theorem dX8_isNewBlank_17 : decode cX8_isNewBlank 17 = .ok (.ireturn, 1) := by decide +kernel
theorem dX8_isPassedOver_0 : decode cX8_isPassedOver 0 = .ok (.aload_n 0, 1) := by decide +kernel
theorem dX8_isPassedOver_1 : decode cX8_isPassedOver 1 = .ok (.getfield 82, 3) := by decide +kernel
theorem dX8_isPassedOver_4 : decode cX8_isPassedOver 4 = .ok (.ifCond .eq 12, 3) := by decide +kernel
theorem dX8_isPassedOver_7 : decode cX8_isPassedOver 7 = .ok (.iload_n 1, 1) := by decide +kernel
theorem dX8_isPassedOver_8 : decode cX8_isPassedOver 8 = .ok (.iconst 3, 1) := by decide +kernel
theorem dX8_isPassedOver_9 : decode cX8_isPassedOver 9 = .ok (.if_icmp .gt 7, 3) := by decide +kernel
theorem dX8_isPassedOver_12 : decode cX8_isPassedOver 12 = .ok (.iconst 1, 1) := by decide +kernel
theorem dX8_isPassedOver_13 : decode cX8_isPassedOver 13 = .ok (.goto 4, 3) := by decide +kernel
theorem dX8_isPassedOver_16 : decode cX8_isPassedOver 16 = .ok (.iconst 0, 1) := by decide +kernel
theorem dX8_isPassedOver_17 : decode cX8_isPassedOver 17 = .ok (.ireturn, 1) := by decide +kernel
theorem dX8_factOf_0 : decode cX8_factOf 0 = .ok (.iload_n 0, 1) := by decide +kernel
theorem dX8_factOf_1 : decode cX8_factOf 1 = .ok (.bipush 16, 2) := by decide +kernel
theorem dX8_factOf_3 : decode cX8_factOf 3 = .ok (.ishl, 1) := by decide +kernel
theorem dX8_factOf_4 : decode cX8_factOf 4 = .ok (.iload_n 1, 1) := by decide +kernel
theorem dX8_factOf_5 : decode cX8_factOf 5 = .ok (.bipush 8, 2) := by decide +kernel
theorem dX8_factOf_7 : decode cX8_factOf 7 = .ok (.ishl, 1) := by decide +kernel
theorem dX8_factOf_8 : decode cX8_factOf 8 = .ok (.ior, 1) := by decide +kernel
theorem dX8_factOf_9 : decode cX8_factOf 9 = .ok (.iload_n 2, 1) := by decide +kernel
theorem dX8_factOf_10 : decode cX8_factOf 10 = .ok (.ior, 1) := by decide +kernel
theorem dX8_factOf_11 : decode cX8_factOf 11 = .ok (.ireturn, 1) := by decide +kernel
theorem dX8_partOf_0 : decode cX8_partOf 0 = .ok (.iload_n 0, 1) := by decide +kernel
theorem dX8_partOf_1 : decode cX8_partOf 1 = .ok (.bipush 16, 2) := by decide +kernel
theorem dX8_partOf_3 : decode cX8_partOf 3 = .ok (.bipush 8, 2) := by decide +kernel
theorem dX8_partOf_5 : decode cX8_partOf 5 = .ok (.iload_n 1, 1) := by decide +kernel
theorem dX8_partOf_6 : decode cX8_partOf 6 = .ok (.imul, 1) := by decide +kernel
theorem dX8_partOf_7 : decode cX8_partOf 7 = .ok (.isub, 1) := by decide +kernel
theorem dX8_partOf_8 : decode cX8_partOf 8 = .ok (.ishr, 1) := by decide +kernel
theorem dX8_partOf_9 : decode cX8_partOf 9 = .ok (.sipush 255, 3) := by decide +kernel
theorem dX8_partOf_12 : decode cX8_partOf 12 = .ok (.iand, 1) := by decide +kernel
theorem dX8_partOf_13 : decode cX8_partOf 13 = .ok (.ireturn, 1) := by decide +kernel
theorem dX8_isPart_0 : decode cX8_isPart 0 = .ok (.iload_n 0, 1) := by decide +kernel
theorem dX8_isPart_1 : decode cX8_isPart 1 = .ok (.ifCond .lt 14, 3) := by decide +kernel
theorem dX8_isPart_4 : decode cX8_isPart 4 = .ok (.iload_n 0, 1) := by decide +kernel
theorem dX8_isPart_5 : decode cX8_isPart 5 = .ok (.sipush 255, 3) := by decide +kernel
theorem dX8_isPart_8 : decode cX8_isPart 8 = .ok (.if_icmp .gt 7, 3) := by decide +kernel
theorem dX8_isPart_11 : decode cX8_isPart 11 = .ok (.iconst 1, 1) := by decide +kernel
theorem dX8_isPart_12 : decode cX8_isPart 12 = .ok (.goto 4, 3) := by decide +kernel
theorem dX8_isPart_15 : decode cX8_isPart 15 = .ok (.iconst 0, 1) := by decide +kernel
theorem dX8_isPart_16 : decode cX8_isPart 16 = .ok (.ireturn, 1) := by decide +kernel
theorem dX9_init_0 : decode cX9_init 0 = .ok (.aload_n 0, 1) := by decide +kernel
theorem dX9_init_1 : decode cX9_init 1 = .ok (.invokespecial 1, 3) := by decide +kernel
theorem dX9_init_4 : decode cX9_init 4 = .ok (.aload_n 0, 1) := by decide +kernel
theorem dX9_init_5 : decode cX9_init 5 = .ok (.bipush 12, 2) := by decide +kernel
theorem dX9_init_7 : decode cX9_init 7 = .ok (.newarray .int, 2) := by decide +kernel
theorem dX9_init_9 : decode cX9_init 9 = .ok (.putfield 7, 3) := by decide +kernel
theorem dX9_init_12 : decode cX9_init 12 = .ok (.aload_n 0, 1) := by decide +kernel
theorem dX9_init_13 : decode cX9_init 13 = .ok (.bipush 12, 2) := by decide +kernel
theorem dX9_init_15 : decode cX9_init 15 = .ok (.newarray .int, 2) := by decide +kernel
theorem dX9_init_17 : decode cX9_init 17 = .ok (.putfield 13, 3) := by decide +kernel
theorem dX9_init_20 : decode cX9_init 20 = .ok (.aload_n 0, 1) := by decide +kernel
theorem dX9_init_21 : decode cX9_init 21 = .ok (.bipush 12, 2) := by decide +kernel
theorem dX9_init_23 : decode cX9_init 23 = .ok (.newarray .int, 2) := by decide +kernel
theorem dX9_init_25 : decode cX9_init 25 = .ok (.putfield 16, 3) := by decide +kernel
theorem dX9_init_28 : decode cX9_init 28 = .ok (.aload_n 0, 1) := by decide +kernel
theorem dX9_init_29 : decode cX9_init 29 = .ok (.bipush 12, 2) := by decide +kernel
theorem dX9_init_31 : decode cX9_init 31 = .ok (.newarray .boolean, 2) := by decide +kernel
theorem dX9_init_33 : decode cX9_init 33 = .ok (.putfield 19, 3) := by decide +kernel
theorem dX9_init_36 : decode cX9_init 36 = .ok (.aload_n 0, 1) := by decide +kernel
theorem dX9_init_37 : decode cX9_init 37 = .ok (.bipush 12, 2) := by decide +kernel
theorem dX9_init_39 : decode cX9_init 39 = .ok (.newarray .int, 2) := by decide +kernel
theorem dX9_init_41 : decode cX9_init 41 = .ok (.putfield 23, 3) := by decide +kernel
theorem dX9_init_44 : decode cX9_init 44 = .ok (.aload_n 0, 1) := by decide +kernel
theorem dX9_init_45 : decode cX9_init 45 = .ok (.bipush 72, 2) := by decide +kernel
theorem dX9_init_47 : decode cX9_init 47 = .ok (.newarray .int, 2) := by decide +kernel
theorem dX9_init_49 : decode cX9_init 49 = .ok (.putfield 26, 3) := by decide +kernel
theorem dX9_init_52 : decode cX9_init 52 = .ok (.aload_n 0, 1) := by decide +kernel
theorem dX9_init_53 : decode cX9_init 53 = .ok (.bipush 72, 2) := by decide +kernel
theorem dX9_init_55 : decode cX9_init 55 = .ok (.newarray .int, 2) := by decide +kernel
theorem dX9_init_57 : decode cX9_init 57 = .ok (.putfield 29, 3) := by decide +kernel
theorem dX9_init_60 : decode cX9_init 60 = .ok (.aload_n 0, 1) := by decide +kernel
theorem dX9_init_61 : decode cX9_init 61 = .ok (.bipush 72, 2) := by decide +kernel
theorem dX9_init_63 : decode cX9_init 63 = .ok (.newarray .int, 2) := by decide +kernel
theorem dX9_init_65 : decode cX9_init 65 = .ok (.putfield 32, 3) := by decide +kernel
theorem dX9_init_68 : decode cX9_init 68 = .ok (.aload_n 0, 1) := by decide +kernel
theorem dX9_init_69 : decode cX9_init 69 = .ok (.bipush 72, 2) := by decide +kernel
theorem dX9_init_71 : decode cX9_init 71 = .ok (.newarray .boolean, 2) := by decide +kernel
theorem dX9_init_73 : decode cX9_init 73 = .ok (.putfield 35, 3) := by decide +kernel
theorem dX9_init_76 : decode cX9_init 76 = .ok (.aload_n 0, 1) := by decide +kernel
theorem dX9_init_77 : decode cX9_init 77 = .ok (.bipush 12, 2) := by decide +kernel
theorem dX9_init_79 : decode cX9_init 79 = .ok (.newarray .int, 2) := by decide +kernel
theorem dX9_init_81 : decode cX9_init 81 = .ok (.putfield 38, 3) := by decide +kernel
theorem dX9_init_84 : decode cX9_init 84 = .ok (.aload_n 0, 1) := by decide +kernel
theorem dX9_init_85 : decode cX9_init 85 = .ok (.bipush 48, 2) := by decide +kernel
theorem dX9_init_87 : decode cX9_init 87 = .ok (.newarray .int, 2) := by decide +kernel
theorem dX9_init_89 : decode cX9_init 89 = .ok (.putfield 41, 3) := by decide +kernel
theorem dX9_init_92 : decode cX9_init 92 = .ok (.aload_n 0, 1) := by decide +kernel
theorem dX9_init_93 : decode cX9_init 93 = .ok (.bipush 48, 2) := by decide +kernel
theorem dX9_init_95 : decode cX9_init 95 = .ok (.newarray .int, 2) := by decide +kernel
theorem dX9_init_97 : decode cX9_init 97 = .ok (.putfield 44, 3) := by decide +kernel
theorem dX9_init_100 : decode cX9_init 100 = .ok (.aload_n 0, 1) := by decide +kernel
theorem dX9_init_101 : decode cX9_init 101 = .ok (.bipush 48, 2) := by decide +kernel
theorem dX9_init_103 : decode cX9_init 103 = .ok (.newarray .int, 2) := by decide +kernel
theorem dX9_init_105 : decode cX9_init 105 = .ok (.putfield 47, 3) := by decide +kernel
theorem dX9_init_108 : decode cX9_init 108 = .ok (.aload_n 0, 1) := by decide +kernel
theorem dX9_init_109 : decode cX9_init 109 = .ok (.iconst 4, 1) := by decide +kernel
theorem dX9_init_110 : decode cX9_init 110 = .ok (.newarray .int, 2) := by decide +kernel
theorem dX9_init_112 : decode cX9_init 112 = .ok (.putfield 50, 3) := by decide +kernel
theorem dX9_init_115 : decode cX9_init 115 = .ok (.aload_n 0, 1) := by decide +kernel
theorem dX9_init_116 : decode cX9_init 116 = .ok (.bipush 40, 2) := by decide +kernel
theorem dX9_init_118 : decode cX9_init 118 = .ok (.newarray .int, 2) := by decide +kernel
theorem dX9_init_120 : decode cX9_init 120 = .ok (.putfield 53, 3) := by decide +kernel
theorem dX9_init_123 : decode cX9_init 123 = .ok (.aload_n 0, 1) := by decide +kernel
theorem dX9_init_124 : decode cX9_init 124 = .ok (.bipush 40, 2) := by decide +kernel
theorem dX9_init_126 : decode cX9_init 126 = .ok (.newarray .int, 2) := by decide +kernel
theorem dX9_init_128 : decode cX9_init 128 = .ok (.putfield 56, 3) := by decide +kernel
theorem dX9_init_131 : decode cX9_init 131 = .ok (.aload_n 0, 1) := by decide +kernel
theorem dX9_init_132 : decode cX9_init 132 = .ok (.bipush 40, 2) := by decide +kernel
theorem dX9_init_134 : decode cX9_init 134 = .ok (.newarray .int, 2) := by decide +kernel
theorem dX9_init_136 : decode cX9_init 136 = .ok (.putfield 59, 3) := by decide +kernel
theorem dX9_init_139 : decode cX9_init 139 = .ok (.aload_n 0, 1) := by decide +kernel
theorem dX9_init_140 : decode cX9_init 140 = .ok (.iconst 4, 1) := by decide +kernel
theorem dX9_init_141 : decode cX9_init 141 = .ok (.newarray .boolean, 2) := by decide +kernel
theorem dX9_init_143 : decode cX9_init 143 = .ok (.putfield 62, 3) := by decide +kernel
theorem dX9_init_146 : decode cX9_init 146 = .ok (.aload_n 0, 1) := by decide +kernel
theorem dX9_init_147 : decode cX9_init 147 = .ok (.bipush 120, 2) := by decide +kernel
theorem dX9_init_149 : decode cX9_init 149 = .ok (.newarray .int, 2) := by decide +kernel
theorem dX9_init_151 : decode cX9_init 151 = .ok (.putfield 65, 3) := by decide +kernel
theorem dX9_init_154 : decode cX9_init 154 = .ok (.aload_n 0, 1) := by decide +kernel
theorem dX9_init_155 : decode cX9_init 155 = .ok (.bipush 120, 2) := by decide +kernel
theorem dX9_init_157 : decode cX9_init 157 = .ok (.newarray .int, 2) := by decide +kernel
theorem dX9_init_159 : decode cX9_init 159 = .ok (.putfield 68, 3) := by decide +kernel
theorem dX9_init_162 : decode cX9_init 162 = .ok (.aload_n 0, 1) := by decide +kernel
theorem dX9_init_163 : decode cX9_init 163 = .ok (.bipush 120, 2) := by decide +kernel
theorem dX9_init_165 : decode cX9_init 165 = .ok (.newarray .int, 2) := by decide +kernel
theorem dX9_init_167 : decode cX9_init 167 = .ok (.putfield 71, 3) := by decide +kernel
theorem dX9_init_170 : decode cX9_init 170 = .ok (.aload_n 0, 1) := by decide +kernel
theorem dX9_init_171 : decode cX9_init 171 = .ok (.bipush 120, 2) := by decide +kernel
theorem dX9_init_173 : decode cX9_init 173 = .ok (.newarray .int, 2) := by decide +kernel
theorem dX9_init_175 : decode cX9_init 175 = .ok (.putfield 74, 3) := by decide +kernel
theorem dX9_init_178 : decode cX9_init 178 = .ok (.aload_n 0, 1) := by decide +kernel
theorem dX9_init_179 : decode cX9_init 179 = .ok (.bipush 7, 2) := by decide +kernel
theorem dX9_init_181 : decode cX9_init 181 = .ok (.newarray .boolean, 2) := by decide +kernel
theorem dX9_init_183 : decode cX9_init 183 = .ok (.putfield 77, 3) := by decide +kernel
theorem dX9_init_186 : decode cX9_init 186 = .ok (.aload_n 0, 1) := by decide +kernel
theorem dX9_init_187 : decode cX9_init 187 = .ok (.bipush 120, 2) := by decide +kernel
theorem dX9_init_189 : decode cX9_init 189 = .ok (.newarray .int, 2) := by decide +kernel
theorem dX9_init_191 : decode cX9_init 191 = .ok (.putfield 80, 3) := by decide +kernel
theorem dX9_init_194 : decode cX9_init 194 = .ok (.aload_n 0, 1) := by decide +kernel
theorem dX9_init_195 : decode cX9_init 195 = .ok (.bipush 120, 2) := by decide +kernel
theorem dX9_init_197 : decode cX9_init 197 = .ok (.newarray .int, 2) := by decide +kernel
theorem dX9_init_199 : decode cX9_init 199 = .ok (.putfield 83, 3) := by decide +kernel
theorem dX9_init_202 : decode cX9_init 202 = .ok (.aload_n 0, 1) := by decide +kernel
theorem dX9_init_203 : decode cX9_init 203 = .ok (.bipush 120, 2) := by decide +kernel
theorem dX9_init_205 : decode cX9_init 205 = .ok (.newarray .int, 2) := by decide +kernel
theorem dX9_init_207 : decode cX9_init 207 = .ok (.putfield 86, 3) := by decide +kernel
theorem dX9_init_210 : decode cX9_init 210 = .ok (.aload_n 0, 1) := by decide +kernel
theorem dX9_init_211 : decode cX9_init 211 = .ok (.bipush 120, 2) := by decide +kernel
theorem dX9_init_213 : decode cX9_init 213 = .ok (.newarray .int, 2) := by decide +kernel
theorem dX9_init_215 : decode cX9_init 215 = .ok (.putfield 89, 3) := by decide +kernel
theorem dX9_init_218 : decode cX9_init 218 = .ok (.aload_n 0, 1) := by decide +kernel
theorem dX9_init_219 : decode cX9_init 219 = .ok (.bipush 7, 2) := by decide +kernel
theorem dX9_init_221 : decode cX9_init 221 = .ok (.newarray .boolean, 2) := by decide +kernel
theorem dX9_init_223 : decode cX9_init 223 = .ok (.putfield 92, 3) := by decide +kernel
theorem dX9_init_226 : decode cX9_init 226 = .ok (.aload_n 0, 1) := by decide +kernel
theorem dX9_init_227 : decode cX9_init 227 = .ok (.sipush 240, 3) := by decide +kernel
theorem dX9_init_230 : decode cX9_init 230 = .ok (.newarray .int, 2) := by decide +kernel
theorem dX9_init_232 : decode cX9_init 232 = .ok (.putfield 95, 3) := by decide +kernel
theorem dX9_init_235 : decode cX9_init 235 = .ok (.aload_n 0, 1) := by decide +kernel
theorem dX9_init_236 : decode cX9_init 236 = .ok (.sipush 240, 3) := by decide +kernel
theorem dX9_init_239 : decode cX9_init 239 = .ok (.newarray .int, 2) := by decide +kernel
theorem dX9_init_241 : decode cX9_init 241 = .ok (.putfield 98, 3) := by decide +kernel
theorem dX9_init_244 : decode cX9_init 244 = .ok (.aload_n 0, 1) := by decide +kernel
theorem dX9_init_245 : decode cX9_init 245 = .ok (.sipush 240, 3) := by decide +kernel
theorem dX9_init_248 : decode cX9_init 248 = .ok (.newarray .int, 2) := by decide +kernel
theorem dX9_init_250 : decode cX9_init 250 = .ok (.putfield 101, 3) := by decide +kernel
theorem dX9_init_253 : decode cX9_init 253 = .ok (.aload_n 0, 1) := by decide +kernel
theorem dX9_init_254 : decode cX9_init 254 = .ok (.sipush 240, 3) := by decide +kernel
theorem dX9_init_257 : decode cX9_init 257 = .ok (.newarray .int, 2) := by decide +kernel
theorem dX9_init_259 : decode cX9_init 259 = .ok (.putfield 104, 3) := by decide +kernel
theorem dX9_init_262 : decode cX9_init 262 = .ok (.aload_n 0, 1) := by decide +kernel
theorem dX9_init_263 : decode cX9_init 263 = .ok (.sipush 240, 3) := by decide +kernel
theorem dX9_init_266 : decode cX9_init 266 = .ok (.newarray .boolean, 2) := by decide +kernel
theorem dX9_init_268 : decode cX9_init 268 = .ok (.putfield 107, 3) := by decide +kernel
theorem dX9_init_271 : decode cX9_init 271 = .ok (.aload_n 0, 1) := by decide +kernel
theorem dX9_init_272 : decode cX9_init 272 = .ok (.bipush 12, 2) := by decide +kernel
theorem dX9_init_274 : decode cX9_init 274 = .ok (.newarray .int, 2) := by decide +kernel
theorem dX9_init_276 : decode cX9_init 276 = .ok (.putfield 110, 3) := by decide +kernel
theorem dX9_init_279 : decode cX9_init 279 = .ok (.aload_n 0, 1) := by decide +kernel
theorem dX9_init_280 : decode cX9_init 280 = .ok (.iconst (-1), 1) := by decide +kernel
theorem dX9_init_281 : decode cX9_init 281 = .ok (.putfield 113, 3) := by decide +kernel
theorem dX9_init_284 : decode cX9_init 284 = .ok (.aload_n 0, 1) := by decide +kernel
theorem dX9_init_285 : decode cX9_init 285 = .ok (.sipush 20400, 3) := by decide +kernel
theorem dX9_init_288 : decode cX9_init 288 = .ok (.newarray .int, 2) := by decide +kernel
theorem dX9_init_290 : decode cX9_init 290 = .ok (.putfield 117, 3) := by decide +kernel
theorem dX9_init_293 : decode cX9_init 293 = .ok (.aload_n 0, 1) := by decide +kernel
theorem dX9_init_294 : decode cX9_init 294 = .ok (.sipush 20400, 3) := by decide +kernel
theorem dX9_init_297 : decode cX9_init 297 = .ok (.newarray .int, 2) := by decide +kernel
theorem dX9_init_299 : decode cX9_init 299 = .ok (.putfield 120, 3) := by decide +kernel
theorem dX9_init_302 : decode cX9_init 302 = .ok (.aload_n 0, 1) := by decide +kernel
theorem dX9_init_303 : decode cX9_init 303 = .ok (.bipush 120, 2) := by decide +kernel
theorem dX9_init_305 : decode cX9_init 305 = .ok (.newarray .int, 2) := by decide +kernel
theorem dX9_init_307 : decode cX9_init 307 = .ok (.putfield 123, 3) := by decide +kernel
theorem dX9_init_310 : decode cX9_init 310 = .ok (.aload_n 0, 1) := by decide +kernel
theorem dX9_init_311 : decode cX9_init 311 = .ok (.iconst 4, 1) := by decide +kernel
theorem dX9_init_312 : decode cX9_init 312 = .ok (.newarray .int, 2) := by decide +kernel
theorem dX9_init_314 : decode cX9_init 314 = .ok (.putfield 126, 3) := by decide +kernel
theorem dX9_init_317 : decode cX9_init 317 = .ok (.aload_n 0, 1) := by decide +kernel
theorem dX9_init_318 : decode cX9_init 318 = .ok (.getfield 77, 3) := by decide +kernel
theorem dX9_init_321 : decode cX9_init 321 = .ok (.iconst 0, 1) := by decide +kernel
theorem dX9_init_322 : decode cX9_init 322 = .ok (.iconst 1, 1) := by decide +kernel
theorem dX9_init_323 : decode cX9_init 323 = .ok (.bastore, 1) := by decide +kernel
theorem dX9_init_324 : decode cX9_init 324 = .ok (.iconst 0, 1) := by decide +kernel
theorem dX9_init_325 : decode cX9_init 325 = .ok (.istore_n 1, 1) := by decide +kernel
theorem dX9_init_326 : decode cX9_init 326 = .ok (.iload_n 1, 1) := by decide +kernel
theorem dX9_init_327 : decode cX9_init 327 = .ok (.bipush 12, 2) := by decide +kernel
theorem dX9_init_329 : decode cX9_init 329 = .ok (.if_icmp .ge 16, 3) := by decide +kernel
theorem dX9_init_332 : decode cX9_init 332 = .ok (.aload_n 0, 1) := by decide +kernel
theorem dX9_init_333 : decode cX9_init 333 = .ok (.getfield 110, 3) := by decide +kernel
theorem dX9_init_336 : decode cX9_init 336 = .ok (.iload_n 1, 1) := by decide +kernel
theorem dX9_init_337 : decode cX9_init 337 = .ok (.iconst (-1), 1) := by decide +kernel
theorem dX9_init_338 : decode cX9_init 338 = .ok (.iastore, 1) := by decide +kernel
theorem dX9_init_339 : decode cX9_init 339 = .ok (.iinc 1 1, 3) := by decide +kernel
theorem dX9_init_342 : decode cX9_init 342 = .ok (.goto (-16), 3) := by decide +kernel
theorem dX9_init_345 : decode cX9_init 345 = .ok (.return_, 1) := by decide +kernel
theorem dX9_thrown_0 : decode cX9_thrown 0 = .ok (.aload_n 0, 1) := by decide +kernel
theorem dX9_thrown_1 : decode cX9_thrown 1 = .ok (.getfield 129, 3) := by decide +kernel
theorem dX9_thrown_4 : decode cX9_thrown 4 = .ok (.ireturn, 1) := by decide +kernel
theorem dX9_isIn_0 : decode cX9_isIn 0 = .ok (.iload_n 0, 1) := by decide +kernel
theorem dX9_isIn_1 : decode cX9_isIn 1 = .ok (.iload_n 1, 1) := by decide +kernel
theorem dX9_isIn_2 : decode cX9_isIn 2 = .ok (.if_icmp .lt 12, 3) := by decide +kernel
theorem dX9_isIn_5 : decode cX9_isIn 5 = .ok (.iload_n 0, 1) := by decide +kernel
theorem dX9_isIn_6 : decode cX9_isIn 6 = .ok (.iload_n 2, 1) := by decide +kernel
theorem dX9_isIn_7 : decode cX9_isIn 7 = .ok (.if_icmp .gt 7, 3) := by decide +kernel
theorem dX9_isIn_10 : decode cX9_isIn 10 = .ok (.iconst 1, 1) := by decide +kernel
theorem dX9_isIn_11 : decode cX9_isIn 11 = .ok (.goto 4, 3) := by decide +kernel
theorem dX9_isIn_14 : decode cX9_isIn 14 = .ok (.iconst 0, 1) := by decide +kernel
theorem dX9_isIn_15 : decode cX9_isIn 15 = .ok (.ireturn, 1) := by decide +kernel
theorem dX9_isStep_0 : decode cX9_isStep 0 = .ok (.iload_n 1, 1) := by decide +kernel
theorem dX9_isStep_1 : decode cX9_isStep 1 = .ok (.ifCond .lt 15, 3) := by decide +kernel
theorem dX9_isStep_4 : decode cX9_isStep 4 = .ok (.iload_n 1, 1) := by decide +kernel
theorem dX9_isStep_5 : decode cX9_isStep 5 = .ok (.aload_n 0, 1) := by decide +kernel
theorem dX9_isStep_6 : decode cX9_isStep 6 = .ok (.getfield 132, 3) := by decide +kernel
theorem dX9_isStep_9 : decode cX9_isStep 9 = .ok (.if_icmp .ge 7, 3) := by decide +kernel
theorem dX9_isStep_12 : decode cX9_isStep 12 = .ok (.iconst 1, 1) := by decide +kernel
theorem dX9_isStep_13 : decode cX9_isStep 13 = .ok (.goto 4, 3) := by decide +kernel
theorem dX9_isStep_16 : decode cX9_isStep 16 = .ok (.iconst 0, 1) := by decide +kernel
theorem dX9_isStep_17 : decode cX9_isStep 17 = .ok (.ireturn, 1) := by decide +kernel
theorem dX9_isTo_0 : decode cX9_isTo 0 = .ok (.iload_n 0, 1) := by decide +kernel
theorem dX9_isTo_1 : decode cX9_isTo 1 = .ok (.iconst 3, 1) := by decide +kernel
theorem dX9_isTo_2 : decode cX9_isTo 2 = .ok (.if_icmp .eq 8, 3) := by decide +kernel
theorem dX9_isTo_5 : decode cX9_isTo 5 = .ok (.iload_n 0, 1) := by decide +kernel
theorem dX9_isTo_6 : decode cX9_isTo 6 = .ok (.iconst 5, 1) := by decide +kernel
theorem dX9_isTo_7 : decode cX9_isTo 7 = .ok (.if_icmp .ne 12, 3) := by decide +kernel
theorem dX9_isTo_10 : decode cX9_isTo 10 = .ok (.iload_n 1, 1) := by decide +kernel
theorem dX9_isTo_11 : decode cX9_isTo 11 = .ok (.bipush (-2), 2) := by decide +kernel
theorem dX9_isTo_13 : decode cX9_isTo 13 = .ok (.bipush 6, 2) := by decide +kernel
theorem dX9_isTo_15 : decode cX9_isTo 15 = .ok (.invokestatic 135, 3) := by decide +kernel
theorem dX9_isTo_18 : decode cX9_isTo 18 = .ok (.ireturn, 1) := by decide +kernel
theorem dX9_isTo_19 : decode cX9_isTo 19 = .ok (.iload_n 1, 1) := by decide +kernel
theorem dX9_isTo_20 : decode cX9_isTo 20 = .ok (.iload_n 0, 1) := by decide +kernel
theorem dX9_isTo_21 : decode cX9_isTo 21 = .ok (.iconst 4, 1) := by decide +kernel
theorem dX9_isTo_22 : decode cX9_isTo 22 = .ok (.if_icmp .ne 7, 3) := by decide +kernel
theorem dX9_isTo_25 : decode cX9_isTo 25 = .ok (.iconst 1, 1) := by decide +kernel
theorem dX9_isTo_26 : decode cX9_isTo 26 = .ok (.goto 4, 3) := by decide +kernel
theorem dX9_isTo_29 : decode cX9_isTo 29 = .ok (.iconst 0, 1) := by decide +kernel
theorem dX9_isTo_30 : decode cX9_isTo 30 = .ok (.bipush 6, 2) := by decide +kernel
theorem dX9_isTo_32 : decode cX9_isTo 32 = .ok (.invokestatic 135, 3) := by decide +kernel
theorem dX9_isTo_35 : decode cX9_isTo 35 = .ok (.ireturn, 1) := by decide +kernel
theorem dX9_step_0 : decode cX9_step 0 = .ok (.iload_n 1, 1) := by decide +kernel
theorem dX9_step_1 : decode cX9_step 1 = .ok (.iconst 2, 1) := by decide +kernel
theorem dX9_step_2 : decode cX9_step 2 = .ok (.if_icmp .eq 9, 3) := by decide +kernel
theorem dX9_step_5 : decode cX9_step 5 = .ok (.iload_n 1, 1) := by decide +kernel
theorem dX9_step_6 : decode cX9_step 6 = .ok (.bipush 6, 2) := by decide +kernel
theorem dX9_step_8 : decode cX9_step 8 = .ok (.if_icmp .lt 7, 3) := by decide +kernel
theorem dX9_step_11 : decode cX9_step 11 = .ok (.iconst 1, 1) := by decide +kernel
theorem dX9_step_12 : decode cX9_step 12 = .ok (.goto 4, 3) := by decide +kernel
theorem dX9_step_15 : decode cX9_step 15 = .ok (.iconst 0, 1) := by decide +kernel
theorem dX9_step_16 : decode cX9_step 16 = .ok (.istore 4, 2) := by decide +kernel
theorem dX9_step_18 : decode cX9_step 18 = .ok (.iload_n 1, 1) := by decide +kernel
theorem dX9_step_19 : decode cX9_step 19 = .ok (.iconst 0, 1) := by decide +kernel
theorem dX9_step_20 : decode cX9_step 20 = .ok (.bipush 9, 2) := by decide +kernel
theorem dX9_step_22 : decode cX9_step 22 = .ok (.invokestatic 135, 3) := by decide +kernel
theorem dX9_step_25 : decode cX9_step 25 = .ok (.ifCond .eq 40, 3) := by decide +kernel
theorem dX9_step_28 : decode cX9_step 28 = .ok (.iload 4, 2) := by decide +kernel
theorem dX9_step_30 : decode cX9_step 30 = .ok (.ifCond .eq 23, 3) := by decide +kernel
theorem dX9_step_33 : decode cX9_step 33 = .ok (.iload_n 2, 1) := by decide +kernel
theorem dX9_step_34 : decode cX9_step 34 = .ok (.iconst 0, 1) := by decide +kernel
theorem dX9_step_35 : decode cX9_step 35 = .ok (.iload_n 1, 1) := by decide +kernel
theorem dX9_step_36 : decode cX9_step 36 = .ok (.bipush 9, 2) := by decide +kernel
theorem dX9_step_38 : decode cX9_step 38 = .ok (.if_icmp .ne 7, 3) := by decide +kernel
theorem dX9_step_41 : decode cX9_step 41 = .ok (.iconst 3, 1) := by decide +kernel
theorem dX9_step_42 : decode cX9_step 42 = .ok (.goto 5, 3) := by decide +kernel
theorem dX9_step_45 : decode cX9_step 45 = .ok (.bipush 6, 2) := by decide +kernel
theorem dX9_step_47 : decode cX9_step 47 = .ok (.invokestatic 135, 3) := by decide +kernel
theorem dX9_step_50 : decode cX9_step 50 = .ok (.ifCond .eq 15, 3) := by decide +kernel
theorem dX9_step_53 : decode cX9_step 53 = .ok (.iload_n 1, 1) := by decide +kernel
theorem dX9_step_54 : decode cX9_step 54 = .ok (.iload_n 3, 1) := by decide +kernel
theorem dX9_step_55 : decode cX9_step 55 = .ok (.invokestatic 139, 3) := by decide +kernel
theorem dX9_step_58 : decode cX9_step 58 = .ok (.ifCond .eq 7, 3) := by decide +kernel
theorem dX9_step_61 : decode cX9_step 61 = .ok (.iconst 1, 1) := by decide +kernel
theorem dX9_step_62 : decode cX9_step 62 = .ok (.goto 4, 3) := by decide +kernel
theorem dX9_step_65 : decode cX9_step 65 = .ok (.iconst 0, 1) := by decide +kernel
theorem dX9_step_66 : decode cX9_step 66 = .ok (.istore 5, 2) := by decide +kernel
theorem dX9_step_68 : decode cX9_step 68 = .ok (.aload_n 0, 1) := by decide +kernel
theorem dX9_step_69 : decode cX9_step 69 = .ok (.iload 5, 2) := by decide +kernel
theorem dX9_step_71 : decode cX9_step 71 = .ok (.ifCond .ne 7, 3) := by decide +kernel
theorem dX9_step_74 : decode cX9_step 74 = .ok (.iconst 1, 1) := by decide +kernel
theorem dX9_step_75 : decode cX9_step 75 = .ok (.goto 17, 3) := by decide +kernel
theorem dX9_step_78 : decode cX9_step 78 = .ok (.aload_n 0, 1) := by decide +kernel
theorem dX9_step_79 : decode cX9_step 79 = .ok (.getfield 132, 3) := by decide +kernel
theorem dX9_step_82 : decode cX9_step 82 = .ok (.bipush 12, 2) := by decide +kernel
theorem dX9_step_84 : decode cX9_step 84 = .ok (.if_icmp .ne 7, 3) := by decide +kernel
theorem dX9_step_87 : decode cX9_step 87 = .ok (.iconst 2, 1) := by decide +kernel
theorem dX9_step_88 : decode cX9_step 88 = .ok (.goto 4, 3) := by decide +kernel
theorem dX9_step_91 : decode cX9_step 91 = .ok (.iconst 0, 1) := by decide +kernel
theorem dX9_step_92 : decode cX9_step 92 = .ok (.putfield 129, 3) := by decide +kernel
theorem dX9_step_95 : decode cX9_step 95 = .ok (.aload_n 0, 1) := by decide +kernel
theorem dX9_step_96 : decode cX9_step 96 = .ok (.getfield 129, 3) := by decide +kernel
theorem dX9_step_99 : decode cX9_step 99 = .ok (.ifCond .le 5, 3) := by decide +kernel
theorem dX9_step_102 : decode cX9_step 102 = .ok (.iconst 0, 1) := by decide +kernel
theorem dX9_step_103 : decode cX9_step 103 = .ok (.ireturn, 1) := by decide +kernel
theorem dX9_step_104 : decode cX9_step 104 = .ok (.aload_n 0, 1) := by decide +kernel
theorem dX9_step_105 : decode cX9_step 105 = .ok (.getfield 7, 3) := by decide +kernel
theorem dX9_step_108 : decode cX9_step 108 = .ok (.aload_n 0, 1) := by decide +kernel
theorem dX9_step_109 : decode cX9_step 109 = .ok (.getfield 132, 3) := by decide +kernel
theorem dX9_step_112 : decode cX9_step 112 = .ok (.iload_n 1, 1) := by decide +kernel
theorem dX9_step_113 : decode cX9_step 113 = .ok (.iastore, 1) := by decide +kernel
theorem dX9_step_114 : decode cX9_step 114 = .ok (.aload_n 0, 1) := by decide +kernel
theorem dX9_step_115 : decode cX9_step 115 = .ok (.getfield 13, 3) := by decide +kernel
theorem dX9_step_118 : decode cX9_step 118 = .ok (.aload_n 0, 1) := by decide +kernel
theorem dX9_step_119 : decode cX9_step 119 = .ok (.getfield 132, 3) := by decide +kernel
theorem dX9_step_122 : decode cX9_step 122 = .ok (.iload_n 2, 1) := by decide +kernel
theorem dX9_step_123 : decode cX9_step 123 = .ok (.iastore, 1) := by decide +kernel
theorem dX9_step_124 : decode cX9_step 124 = .ok (.aload_n 0, 1) := by decide +kernel
theorem dX9_step_125 : decode cX9_step 125 = .ok (.getfield 16, 3) := by decide +kernel
theorem dX9_step_128 : decode cX9_step 128 = .ok (.aload_n 0, 1) := by decide +kernel
theorem dX9_step_129 : decode cX9_step 129 = .ok (.getfield 132, 3) := by decide +kernel
theorem dX9_step_132 : decode cX9_step 132 = .ok (.iload_n 3, 1) := by decide +kernel
theorem dX9_step_133 : decode cX9_step 133 = .ok (.iastore, 1) := by decide +kernel
theorem dX9_step_134 : decode cX9_step 134 = .ok (.aload_n 0, 1) := by decide +kernel
theorem dX9_step_135 : decode cX9_step 135 = .ok (.getfield 19, 3) := by decide +kernel
theorem dX9_step_138 : decode cX9_step 138 = .ok (.aload_n 0, 1) := by decide +kernel
theorem dX9_step_139 : decode cX9_step 139 = .ok (.getfield 132, 3) := by decide +kernel
theorem dX9_step_142 : decode cX9_step 142 = .ok (.iconst 0, 1) := by decide +kernel
theorem dX9_step_143 : decode cX9_step 143 = .ok (.bastore, 1) := by decide +kernel
theorem dX9_step_144 : decode cX9_step 144 = .ok (.aload_n 0, 1) := by decide +kernel
theorem dX9_step_145 : decode cX9_step 145 = .ok (.getfield 23, 3) := by decide +kernel
theorem dX9_step_148 : decode cX9_step 148 = .ok (.aload_n 0, 1) := by decide +kernel
theorem dX9_step_149 : decode cX9_step 149 = .ok (.getfield 132, 3) := by decide +kernel
theorem dX9_step_152 : decode cX9_step 152 = .ok (.iconst 0, 1) := by decide +kernel
theorem dX9_step_153 : decode cX9_step 153 = .ok (.iastore, 1) := by decide +kernel
theorem dX9_step_154 : decode cX9_step 154 = .ok (.aload_n 0, 1) := by decide +kernel
theorem dX9_step_155 : decode cX9_step 155 = .ok (.getfield 38, 3) := by decide +kernel
theorem dX9_step_158 : decode cX9_step 158 = .ok (.aload_n 0, 1) := by decide +kernel
theorem dX9_step_159 : decode cX9_step 159 = .ok (.getfield 132, 3) := by decide +kernel
theorem dX9_step_162 : decode cX9_step 162 = .ok (.iconst 0, 1) := by decide +kernel
theorem dX9_step_163 : decode cX9_step 163 = .ok (.iastore, 1) := by decide +kernel
theorem dX9_step_164 : decode cX9_step 164 = .ok (.aload_n 0, 1) := by decide +kernel
theorem dX9_step_165 : decode cX9_step 165 = .ok (.dup, 1) := by decide +kernel
theorem dX9_step_166 : decode cX9_step 166 = .ok (.getfield 132, 3) := by decide +kernel
theorem dX9_step_169 : decode cX9_step 169 = .ok (.iconst 1, 1) := by decide +kernel
theorem dX9_step_170 : decode cX9_step 170 = .ok (.iadd, 1) := by decide +kernel
theorem dX9_step_171 : decode cX9_step 171 = .ok (.putfield 132, 3) := by decide +kernel
theorem dX9_step_174 : decode cX9_step 174 = .ok (.aload_n 0, 1) := by decide +kernel
theorem dX9_step_175 : decode cX9_step 175 = .ok (.getfield 132, 3) := by decide +kernel
theorem dX9_step_178 : decode cX9_step 178 = .ok (.iconst 1, 1) := by decide +kernel
theorem dX9_step_179 : decode cX9_step 179 = .ok (.isub, 1) := by decide +kernel
theorem dX9_step_180 : decode cX9_step 180 = .ok (.ireturn, 1) := by decide +kernel
theorem dX9_silent_0 : decode cX9_silent 0 = .ok (.aload_n 0, 1) := by decide +kernel
theorem dX9_silent_1 : decode cX9_silent 1 = .ok (.aload_n 0, 1) := by decide +kernel
theorem dX9_silent_2 : decode cX9_silent 2 = .ok (.iload_n 1, 1) := by decide +kernel
theorem dX9_silent_3 : decode cX9_silent 3 = .ok (.invokevirtual 143, 3) := by decide +kernel
theorem dX9_silent_6 : decode cX9_silent 6 = .ok (.ifCond .eq 7, 3) := by decide +kernel
theorem dX9_silent_9 : decode cX9_silent 9 = .ok (.iconst 0, 1) := by decide +kernel
theorem dX9_silent_10 : decode cX9_silent 10 = .ok (.goto 4, 3) := by decide +kernel
theorem dX9_silent_13 : decode cX9_silent 13 = .ok (.iconst 1, 1) := by decide +kernel
theorem dX9_silent_14 : decode cX9_silent 14 = .ok (.putfield 129, 3) := by decide +kernel
theorem dX9_silent_17 : decode cX9_silent 17 = .ok (.aload_n 0, 1) := by decide +kernel
theorem dX9_silent_18 : decode cX9_silent 18 = .ok (.getfield 129, 3) := by decide +kernel
theorem dX9_silent_21 : decode cX9_silent 21 = .ok (.ifCond .le 5, 3) := by decide +kernel
theorem dX9_silent_24 : decode cX9_silent 24 = .ok (.iconst 0, 1) := by decide +kernel
theorem dX9_silent_25 : decode cX9_silent 25 = .ok (.ireturn, 1) := by decide +kernel
theorem dX9_silent_26 : decode cX9_silent 26 = .ok (.aload_n 0, 1) := by decide +kernel
theorem dX9_silent_27 : decode cX9_silent 27 = .ok (.getfield 19, 3) := by decide +kernel
theorem dX9_silent_30 : decode cX9_silent 30 = .ok (.iload_n 1, 1) := by decide +kernel
theorem dX9_silent_31 : decode cX9_silent 31 = .ok (.baload, 1) := by decide +kernel
theorem dX9_silent_32 : decode cX9_silent 32 = .ok (.istore_n 3, 1) := by decide +kernel
theorem dX9_silent_33 : decode cX9_silent 33 = .ok (.aload_n 0, 1) := by decide +kernel
theorem dX9_silent_34 : decode cX9_silent 34 = .ok (.getfield 19, 3) := by decide +kernel
theorem dX9_silent_37 : decode cX9_silent 37 = .ok (.iload_n 1, 1) := by decide +kernel
theorem dX9_silent_38 : decode cX9_silent 38 = .ok (.iload_n 2, 1) := by decide +kernel
theorem dX9_silent_39 : decode cX9_silent 39 = .ok (.bastore, 1) := by decide +kernel
theorem dX9_silent_40 : decode cX9_silent 40 = .ok (.iload_n 3, 1) := by decide +kernel
theorem dX9_silent_41 : decode cX9_silent 41 = .ok (.ireturn, 1) := by decide +kernel
theorem dX9_isName_0 : decode cX9_isName 0 = .ok (.iload_n 0, 1) := by decide +kernel
theorem dX9_isName_1 : decode cX9_isName 1 = .ok (.iconst 0, 1) := by decide +kernel
theorem dX9_isName_2 : decode cX9_isName 2 = .ok (.bipush 99, 2) := by decide +kernel
theorem dX9_isName_4 : decode cX9_isName 4 = .ok (.invokestatic 135, 3) := by decide +kernel
theorem dX9_isName_7 : decode cX9_isName 7 = .ok (.ireturn, 1) := by decide +kernel
theorem dX9_isVariable_0 : decode cX9_isVariable 0 = .ok (.iload_n 0, 1) := by decide +kernel
theorem dX9_isVariable_1 : decode cX9_isVariable 1 = .ok (.bipush (-4), 2) := by decide +kernel
theorem dX9_isVariable_3 : decode cX9_isVariable 3 = .ok (.iconst (-1), 1) := by decide +kernel
theorem dX9_isVariable_4 : decode cX9_isVariable 4 = .ok (.invokestatic 135, 3) := by decide +kernel
theorem dX9_isVariable_7 : decode cX9_isVariable 7 = .ok (.ireturn, 1) := by decide +kernel
theorem dX9_isNew_0 : decode cX9_isNew 0 = .ok (.iload_n 0, 1) := by decide +kernel
theorem dX9_isNew_1 : decode cX9_isNew 1 = .ok (.bipush (-14), 2) := by decide +kernel
theorem dX9_isNew_3 : decode cX9_isNew 3 = .ok (.bipush (-11), 2) := by decide +kernel
theorem dX9_isNew_5 : decode cX9_isNew 5 = .ok (.invokestatic 135, 3) := by decide +kernel
theorem dX9_isNew_8 : decode cX9_isNew 8 = .ok (.ireturn, 1) := by decide +kernel
theorem dX9_mayStand_0 : decode cX9_mayStand 0 = .ok (.iload_n 0, 1) := by decide +kernel
theorem dX9_mayStand_1 : decode cX9_mayStand 1 = .ok (.invokestatic 147, 3) := by decide +kernel
theorem dX9_mayStand_4 : decode cX9_mayStand 4 = .ok (.ifCond .ne 26, 3) := by decide +kernel
theorem dX9_mayStand_7 : decode cX9_mayStand 7 = .ok (.iload_n 1, 1) := by decide +kernel
theorem dX9_mayStand_8 : decode cX9_mayStand 8 = .ok (.iconst 2, 1) := by decide +kernel
theorem dX9_mayStand_9 : decode cX9_mayStand 9 = .ok (.if_icmp .ne 10, 3) := by decide +kernel
theorem dX9_mayStand_12 : decode cX9_mayStand 12 = .ok (.iload_n 0, 1) := by decide +kernel
theorem dX9_mayStand_13 : decode cX9_mayStand 13 = .ok (.invokestatic 150, 3) := by decide +kernel
theorem dX9_mayStand_16 : decode cX9_mayStand 16 = .ok (.ifCond .ne 14, 3) := by decide +kernel
theorem dX9_mayStand_19 : decode cX9_mayStand 19 = .ok (.iload_n 2, 1) := by decide +kernel
theorem dX9_mayStand_20 : decode cX9_mayStand 20 = .ok (.ifCond .eq 14, 3) := by decide +kernel
theorem dX9_mayStand_23 : decode cX9_mayStand 23 = .ok (.iload_n 0, 1) := by decide +kernel
theorem dX9_mayStand_24 : decode cX9_mayStand 24 = .ok (.invokestatic 153, 3) := by decide +kernel
theorem dX9_mayStand_27 : decode cX9_mayStand 27 = .ok (.ifCond .eq 7, 3) := by decide +kernel
theorem dX9_mayStand_30 : decode cX9_mayStand 30 = .ok (.iconst 1, 1) := by decide +kernel
theorem dX9_mayStand_31 : decode cX9_mayStand 31 = .ok (.goto 4, 3) := by decide +kernel
theorem dX9_mayStand_34 : decode cX9_mayStand 34 = .ok (.iconst 0, 1) := by decide +kernel
theorem dX9_mayStand_35 : decode cX9_mayStand 35 = .ok (.ireturn, 1) := by decide +kernel
theorem dX9_template_0 : decode cX9_template 0 = .ok (.aload_n 0, 1) := by decide +kernel
theorem dX9_template_1 : decode cX9_template 1 = .ok (.aload_n 0, 1) := by decide +kernel
theorem dX9_template_2 : decode cX9_template 2 = .ok (.iload_n 1, 1) := by decide +kernel
theorem dX9_template_3 : decode cX9_template 3 = .ok (.invokevirtual 143, 3) := by decide +kernel
theorem dX9_template_6 : decode cX9_template 6 = .ok (.ifCond .eq 7, 3) := by decide +kernel
theorem dX9_template_9 : decode cX9_template 9 = .ok (.iconst 0, 1) := by decide +kernel
theorem dX9_template_10 : decode cX9_template 10 = .ok (.goto 4, 3) := by decide +kernel
theorem dX9_template_13 : decode cX9_template 13 = .ok (.iconst 1, 1) := by decide +kernel
theorem dX9_template_14 : decode cX9_template 14 = .ok (.putfield 129, 3) := by decide +kernel
theorem dX9_template_17 : decode cX9_template 17 = .ok (.aload_n 0, 1) := by decide +kernel
theorem dX9_template_18 : decode cX9_template 18 = .ok (.getfield 129, 3) := by decide +kernel
theorem dX9_template_21 : decode cX9_template 21 = .ok (.ifCond .le 5, 3) := by decide +kernel
theorem dX9_template_24 : decode cX9_template 24 = .ok (.iconst 0, 1) := by decide +kernel
theorem dX9_template_25 : decode cX9_template 25 = .ok (.ireturn, 1) := by decide +kernel
theorem dX9_template_26 : decode cX9_template 26 = .ok (.aload_n 0, 1) := by decide +kernel
theorem dX9_template_27 : decode cX9_template 27 = .ok (.getfield 7, 3) := by decide +kernel
theorem dX9_template_30 : decode cX9_template 30 = .ok (.iload_n 1, 1) := by decide +kernel
theorem dX9_template_31 : decode cX9_template 31 = .ok (.iaload, 1) := by decide +kernel
theorem dX9_template_32 : decode cX9_template 32 = .ok (.istore 6, 2) := by decide +kernel
theorem dX9_template_34 : decode cX9_template 34 = .ok (.iload 6, 2) := by decide +kernel
theorem dX9_template_36 : decode cX9_template 36 = .ok (.iconst 3, 1) := by decide +kernel
theorem dX9_template_37 : decode cX9_template 37 = .ok (.if_icmp .ge 61, 3) := by decide +kernel
theorem dX9_template_40 : decode cX9_template 40 = .ok (.iload 6, 2) := by decide +kernel
theorem dX9_template_42 : decode cX9_template 42 = .ok (.ifCond .ne 8, 3) := by decide +kernel
theorem dX9_template_45 : decode cX9_template 45 = .ok (.iload 5, 2) := by decide +kernel
theorem dX9_template_47 : decode cX9_template 47 = .ok (.ifCond .eq 51, 3) := by decide +kernel
theorem dX9_template_50 : decode cX9_template 50 = .ok (.iload 6, 2) := by decide +kernel
theorem dX9_template_52 : decode cX9_template 52 = .ok (.iconst 1, 1) := by decide +kernel
theorem dX9_template_53 : decode cX9_template 53 = .ok (.if_icmp .ne 8, 3) := by decide +kernel
theorem dX9_template_56 : decode cX9_template 56 = .ok (.iload 5, 2) := by decide +kernel
theorem dX9_template_58 : decode cX9_template 58 = .ok (.ifCond .ne 40, 3) := by decide +kernel
theorem dX9_template_61 : decode cX9_template 61 = .ok (.iload_n 2, 1) := by decide +kernel
theorem dX9_template_62 : decode cX9_template 62 = .ok (.iload 6, 2) := by decide +kernel
theorem dX9_template_64 : decode cX9_template 64 = .ok (.iload 5, 2) := by decide +kernel
theorem dX9_template_66 : decode cX9_template 66 = .ok (.invokestatic 156, 3) := by decide +kernel
theorem dX9_template_69 : decode cX9_template 69 = .ok (.ifCond .eq 29, 3) := by decide +kernel
theorem dX9_template_72 : decode cX9_template 72 = .ok (.iload_n 3, 1) := by decide +kernel
theorem dX9_template_73 : decode cX9_template 73 = .ok (.iload 6, 2) := by decide +kernel
theorem dX9_template_75 : decode cX9_template 75 = .ok (.iconst 0, 1) := by decide +kernel
theorem dX9_template_76 : decode cX9_template 76 = .ok (.invokestatic 156, 3) := by decide +kernel
theorem dX9_template_79 : decode cX9_template 79 = .ok (.ifCond .eq 19, 3) := by decide +kernel
theorem dX9_template_82 : decode cX9_template 82 = .ok (.iload 4, 2) := by decide +kernel
theorem dX9_template_84 : decode cX9_template 84 = .ok (.iload 6, 2) := by decide +kernel
theorem dX9_template_86 : decode cX9_template 86 = .ok (.iload 5, 2) := by decide +kernel
theorem dX9_template_88 : decode cX9_template 88 = .ok (.invokestatic 156, 3) := by decide +kernel
theorem dX9_template_91 : decode cX9_template 91 = .ok (.ifCond .eq 7, 3) := by decide +kernel
theorem dX9_template_94 : decode cX9_template 94 = .ok (.iconst 1, 1) := by decide +kernel
theorem dX9_template_95 : decode cX9_template 95 = .ok (.goto 4, 3) := by decide +kernel
theorem dX9_template_98 : decode cX9_template 98 = .ok (.iconst 0, 1) := by decide +kernel
theorem dX9_template_99 : decode cX9_template 99 = .ok (.istore 7, 2) := by decide +kernel
theorem dX9_template_101 : decode cX9_template 101 = .ok (.aload_n 0, 1) := by decide +kernel
theorem dX9_template_102 : decode cX9_template 102 = .ok (.iload 7, 2) := by decide +kernel
theorem dX9_template_104 : decode cX9_template 104 = .ok (.ifCond .ne 7, 3) := by decide +kernel
theorem dX9_template_107 : decode cX9_template 107 = .ok (.iconst 2, 1) := by decide +kernel
theorem dX9_template_108 : decode cX9_template 108 = .ok (.goto 19, 3) := by decide +kernel
theorem dX9_template_111 : decode cX9_template 111 = .ok (.aload_n 0, 1) := by decide +kernel
theorem dX9_template_112 : decode cX9_template 112 = .ok (.getfield 23, 3) := by decide +kernel
theorem dX9_template_115 : decode cX9_template 115 = .ok (.iload_n 1, 1) := by decide +kernel
theorem dX9_template_116 : decode cX9_template 116 = .ok (.iaload, 1) := by decide +kernel
theorem dX9_template_117 : decode cX9_template 117 = .ok (.bipush 6, 2) := by decide +kernel
theorem dX9_template_119 : decode cX9_template 119 = .ok (.if_icmp .ne 7, 3) := by decide +kernel
theorem dX9_template_122 : decode cX9_template 122 = .ok (.iconst 3, 1) := by decide +kernel
theorem dX9_template_123 : decode cX9_template 123 = .ok (.goto 4, 3) := by decide +kernel
theorem dX9_template_126 : decode cX9_template 126 = .ok (.iconst 0, 1) := by decide +kernel
theorem dX9_template_127 : decode cX9_template 127 = .ok (.putfield 129, 3) := by decide +kernel
theorem dX9_template_130 : decode cX9_template 130 = .ok (.aload_n 0, 1) := by decide +kernel
theorem dX9_template_131 : decode cX9_template 131 = .ok (.getfield 129, 3) := by decide +kernel
theorem dX9_template_134 : decode cX9_template 134 = .ok (.ifCond .le 5, 3) := by decide +kernel
theorem dX9_template_137 : decode cX9_template 137 = .ok (.iconst 0, 1) := by decide +kernel
theorem dX9_template_138 : decode cX9_template 138 = .ok (.ireturn, 1) := by decide +kernel
theorem dX9_template_139 : decode cX9_template 139 = .ok (.bipush 6, 2) := by decide +kernel
theorem dX9_template_141 : decode cX9_template 141 = .ok (.iload_n 1, 1) := by decide +kernel
theorem dX9_template_142 : decode cX9_template 142 = .ok (.imul, 1) := by decide +kernel
theorem dX9_template_143 : decode cX9_template 143 = .ok (.aload_n 0, 1) := by decide +kernel
theorem dX9_template_144 : decode cX9_template 144 = .ok (.getfield 23, 3) := by decide +kernel
theorem dX9_template_147 : decode cX9_template 147 = .ok (.iload_n 1, 1) := by decide +kernel
theorem dX9_template_148 : decode cX9_template 148 = .ok (.iaload, 1) := by decide +kernel
theorem dX9_template_149 : decode cX9_template 149 = .ok (.iadd, 1) := by decide +kernel
theorem dX9_template_150 : decode cX9_template 150 = .ok (.istore 8, 2) := by decide +kernel
theorem dX9_template_152 : decode cX9_template 152 = .ok (.aload_n 0, 1) := by decide +kernel
theorem dX9_template_153 : decode cX9_template 153 = .ok (.getfield 26, 3) := by decide +kernel
theorem dX9_template_156 : decode cX9_template 156 = .ok (.iload 8, 2) := by decide +kernel
theorem dX9_template_158 : decode cX9_template 158 = .ok (.iload_n 2, 1) := by decide +kernel
theorem dX9_template_159 : decode cX9_template 159 = .ok (.iastore, 1) := by decide +kernel
theorem dX9_template_160 : decode cX9_template 160 = .ok (.aload_n 0, 1) := by decide +kernel
theorem dX9_template_161 : decode cX9_template 161 = .ok (.getfield 29, 3) := by decide +kernel
theorem dX9_template_164 : decode cX9_template 164 = .ok (.iload 8, 2) := by decide +kernel
theorem dX9_template_166 : decode cX9_template 166 = .ok (.iload_n 3, 1) := by decide +kernel
theorem dX9_template_167 : decode cX9_template 167 = .ok (.iastore, 1) := by decide +kernel
theorem dX9_template_168 : decode cX9_template 168 = .ok (.aload_n 0, 1) := by decide +kernel
theorem dX9_template_169 : decode cX9_template 169 = .ok (.getfield 32, 3) := by decide +kernel
theorem dX9_template_172 : decode cX9_template 172 = .ok (.iload 8, 2) := by decide +kernel
theorem dX9_template_174 : decode cX9_template 174 = .ok (.iload 4, 2) := by decide +kernel
theorem dX9_template_176 : decode cX9_template 176 = .ok (.iastore, 1) := by decide +kernel
theorem dX9_template_177 : decode cX9_template 177 = .ok (.aload_n 0, 1) := by decide +kernel
theorem dX9_template_178 : decode cX9_template 178 = .ok (.getfield 35, 3) := by decide +kernel
theorem dX9_template_181 : decode cX9_template 181 = .ok (.iload 8, 2) := by decide +kernel
theorem dX9_template_183 : decode cX9_template 183 = .ok (.iload 5, 2) := by decide +kernel
theorem dX9_template_185 : decode cX9_template 185 = .ok (.bastore, 1) := by decide +kernel
theorem dX9_template_186 : decode cX9_template 186 = .ok (.aload_n 0, 1) := by decide +kernel
theorem dX9_template_187 : decode cX9_template 187 = .ok (.getfield 23, 3) := by decide +kernel
theorem dX9_template_190 : decode cX9_template 190 = .ok (.iload_n 1, 1) := by decide +kernel
theorem dX9_template_191 : decode cX9_template 191 = .ok (.dup2, 1) := by decide +kernel
theorem dX9_template_192 : decode cX9_template 192 = .ok (.iaload, 1) := by decide +kernel
theorem dX9_template_193 : decode cX9_template 193 = .ok (.iconst 1, 1) := by decide +kernel
theorem dX9_template_194 : decode cX9_template 194 = .ok (.iadd, 1) := by decide +kernel
theorem dX9_template_195 : decode cX9_template 195 = .ok (.iastore, 1) := by decide +kernel
theorem dX9_template_196 : decode cX9_template 196 = .ok (.aload_n 0, 1) := by decide +kernel
theorem dX9_template_197 : decode cX9_template 197 = .ok (.getfield 23, 3) := by decide +kernel
theorem dX9_template_200 : decode cX9_template 200 = .ok (.iload_n 1, 1) := by decide +kernel
theorem dX9_template_201 : decode cX9_template 201 = .ok (.iaload, 1) := by decide +kernel
theorem dX9_template_202 : decode cX9_template 202 = .ok (.ireturn, 1) := by decide +kernel
theorem dX9_pattern_0 : decode cX9_pattern 0 = .ok (.aload_n 0, 1) := by decide +kernel
theorem dX9_pattern_1 : decode cX9_pattern 1 = .ok (.aload_n 0, 1) := by decide +kernel
theorem dX9_pattern_2 : decode cX9_pattern 2 = .ok (.iload_n 1, 1) := by decide +kernel
theorem dX9_pattern_3 : decode cX9_pattern 3 = .ok (.invokevirtual 143, 3) := by decide +kernel
theorem dX9_pattern_6 : decode cX9_pattern 6 = .ok (.ifCond .eq 7, 3) := by decide +kernel
theorem dX9_pattern_9 : decode cX9_pattern 9 = .ok (.iconst 0, 1) := by decide +kernel
theorem dX9_pattern_10 : decode cX9_pattern 10 = .ok (.goto 4, 3) := by decide +kernel
theorem dX9_pattern_13 : decode cX9_pattern 13 = .ok (.iconst 1, 1) := by decide +kernel
theorem dX9_pattern_14 : decode cX9_pattern 14 = .ok (.putfield 129, 3) := by decide +kernel
theorem dX9_pattern_17 : decode cX9_pattern 17 = .ok (.aload_n 0, 1) := by decide +kernel
theorem dX9_pattern_18 : decode cX9_pattern 18 = .ok (.getfield 129, 3) := by decide +kernel
theorem dX9_pattern_21 : decode cX9_pattern 21 = .ok (.ifCond .le 5, 3) := by decide +kernel
theorem dX9_pattern_24 : decode cX9_pattern 24 = .ok (.iconst 0, 1) := by decide +kernel
theorem dX9_pattern_25 : decode cX9_pattern 25 = .ok (.ireturn, 1) := by decide +kernel
theorem dX9_pattern_26 : decode cX9_pattern 26 = .ok (.aload_n 0, 1) := by decide +kernel
theorem dX9_pattern_27 : decode cX9_pattern 27 = .ok (.getfield 7, 3) := by decide +kernel
theorem dX9_pattern_30 : decode cX9_pattern 30 = .ok (.iload_n 1, 1) := by decide +kernel
theorem dX9_pattern_31 : decode cX9_pattern 31 = .ok (.iaload, 1) := by decide +kernel
theorem dX9_pattern_32 : decode cX9_pattern 32 = .ok (.iconst 2, 1) := by decide +kernel
theorem dX9_pattern_33 : decode cX9_pattern 33 = .ok (.if_icmp .ne 35, 3) := by decide +kernel
theorem dX9_pattern_36 : decode cX9_pattern 36 = .ok (.iload_n 2, 1) := by decide +kernel
theorem dX9_pattern_37 : decode cX9_pattern 37 = .ok (.iconst 2, 1) := by decide +kernel
theorem dX9_pattern_38 : decode cX9_pattern 38 = .ok (.iconst 0, 1) := by decide +kernel
theorem dX9_pattern_39 : decode cX9_pattern 39 = .ok (.invokestatic 156, 3) := by decide +kernel
theorem dX9_pattern_42 : decode cX9_pattern 42 = .ok (.ifCond .eq 26, 3) := by decide +kernel
theorem dX9_pattern_45 : decode cX9_pattern 45 = .ok (.iload_n 3, 1) := by decide +kernel
theorem dX9_pattern_46 : decode cX9_pattern 46 = .ok (.iconst 2, 1) := by decide +kernel
theorem dX9_pattern_47 : decode cX9_pattern 47 = .ok (.iconst 0, 1) := by decide +kernel
theorem dX9_pattern_48 : decode cX9_pattern 48 = .ok (.invokestatic 156, 3) := by decide +kernel
theorem dX9_pattern_51 : decode cX9_pattern 51 = .ok (.ifCond .eq 17, 3) := by decide +kernel
theorem dX9_pattern_54 : decode cX9_pattern 54 = .ok (.iload 4, 2) := by decide +kernel
theorem dX9_pattern_56 : decode cX9_pattern 56 = .ok (.iconst 2, 1) := by decide +kernel
theorem dX9_pattern_57 : decode cX9_pattern 57 = .ok (.iconst 0, 1) := by decide +kernel
theorem dX9_pattern_58 : decode cX9_pattern 58 = .ok (.invokestatic 156, 3) := by decide +kernel
theorem dX9_pattern_61 : decode cX9_pattern 61 = .ok (.ifCond .eq 7, 3) := by decide +kernel
theorem dX9_pattern_64 : decode cX9_pattern 64 = .ok (.iconst 1, 1) := by decide +kernel
theorem dX9_pattern_65 : decode cX9_pattern 65 = .ok (.goto 4, 3) := by decide +kernel
theorem dX9_pattern_68 : decode cX9_pattern 68 = .ok (.iconst 0, 1) := by decide +kernel
theorem dX9_pattern_69 : decode cX9_pattern 69 = .ok (.istore 5, 2) := by decide +kernel
theorem dX9_pattern_71 : decode cX9_pattern 71 = .ok (.aload_n 0, 1) := by decide +kernel
theorem dX9_pattern_72 : decode cX9_pattern 72 = .ok (.iload 5, 2) := by decide +kernel
theorem dX9_pattern_74 : decode cX9_pattern 74 = .ok (.ifCond .ne 7, 3) := by decide +kernel
theorem dX9_pattern_77 : decode cX9_pattern 77 = .ok (.iconst 2, 1) := by decide +kernel
theorem dX9_pattern_78 : decode cX9_pattern 78 = .ok (.goto 18, 3) := by decide +kernel
theorem dX9_pattern_81 : decode cX9_pattern 81 = .ok (.aload_n 0, 1) := by decide +kernel
theorem dX9_pattern_82 : decode cX9_pattern 82 = .ok (.getfield 38, 3) := by decide +kernel
theorem dX9_pattern_85 : decode cX9_pattern 85 = .ok (.iload_n 1, 1) := by decide +kernel
theorem dX9_pattern_86 : decode cX9_pattern 86 = .ok (.iaload, 1) := by decide +kernel
theorem dX9_pattern_87 : decode cX9_pattern 87 = .ok (.iconst 4, 1) := by decide +kernel
theorem dX9_pattern_88 : decode cX9_pattern 88 = .ok (.if_icmp .ne 7, 3) := by decide +kernel
theorem dX9_pattern_91 : decode cX9_pattern 91 = .ok (.iconst 3, 1) := by decide +kernel
theorem dX9_pattern_92 : decode cX9_pattern 92 = .ok (.goto 4, 3) := by decide +kernel
theorem dX9_pattern_95 : decode cX9_pattern 95 = .ok (.iconst 0, 1) := by decide +kernel
theorem dX9_pattern_96 : decode cX9_pattern 96 = .ok (.putfield 129, 3) := by decide +kernel
theorem dX9_pattern_99 : decode cX9_pattern 99 = .ok (.aload_n 0, 1) := by decide +kernel
theorem dX9_pattern_100 : decode cX9_pattern 100 = .ok (.getfield 129, 3) := by decide +kernel
theorem dX9_pattern_103 : decode cX9_pattern 103 = .ok (.ifCond .le 5, 3) := by decide +kernel
theorem dX9_pattern_106 : decode cX9_pattern 106 = .ok (.iconst 0, 1) := by decide +kernel
theorem dX9_pattern_107 : decode cX9_pattern 107 = .ok (.ireturn, 1) := by decide +kernel
theorem dX9_pattern_108 : decode cX9_pattern 108 = .ok (.iconst 4, 1) := by decide +kernel
theorem dX9_pattern_109 : decode cX9_pattern 109 = .ok (.iload_n 1, 1) := by decide +kernel
theorem dX9_pattern_110 : decode cX9_pattern 110 = .ok (.imul, 1) := by decide +kernel
theorem dX9_pattern_111 : decode cX9_pattern 111 = .ok (.aload_n 0, 1) := by decide +kernel
theorem dX9_pattern_112 : decode cX9_pattern 112 = .ok (.getfield 38, 3) := by decide +kernel
theorem dX9_pattern_115 : decode cX9_pattern 115 = .ok (.iload_n 1, 1) := by decide +kernel
theorem dX9_pattern_116 : decode cX9_pattern 116 = .ok (.iaload, 1) := by decide +kernel
theorem dX9_pattern_117 : decode cX9_pattern 117 = .ok (.iadd, 1) := by decide +kernel
theorem dX9_pattern_118 : decode cX9_pattern 118 = .ok (.istore 6, 2) := by decide +kernel
theorem dX9_pattern_120 : decode cX9_pattern 120 = .ok (.aload_n 0, 1) := by decide +kernel
theorem dX9_pattern_121 : decode cX9_pattern 121 = .ok (.getfield 41, 3) := by decide +kernel
theorem dX9_pattern_124 : decode cX9_pattern 124 = .ok (.iload 6, 2) := by decide +kernel
theorem dX9_pattern_126 : decode cX9_pattern 126 = .ok (.iload_n 2, 1) := by decide +kernel
theorem dX9_pattern_127 : decode cX9_pattern 127 = .ok (.iastore, 1) := by decide +kernel
theorem dX9_pattern_128 : decode cX9_pattern 128 = .ok (.aload_n 0, 1) := by decide +kernel
theorem dX9_pattern_129 : decode cX9_pattern 129 = .ok (.getfield 44, 3) := by decide +kernel
theorem dX9_pattern_132 : decode cX9_pattern 132 = .ok (.iload 6, 2) := by decide +kernel
theorem dX9_pattern_134 : decode cX9_pattern 134 = .ok (.iload_n 3, 1) := by decide +kernel
theorem dX9_pattern_135 : decode cX9_pattern 135 = .ok (.iastore, 1) := by decide +kernel
theorem dX9_pattern_136 : decode cX9_pattern 136 = .ok (.aload_n 0, 1) := by decide +kernel
theorem dX9_pattern_137 : decode cX9_pattern 137 = .ok (.getfield 47, 3) := by decide +kernel
theorem dX9_pattern_140 : decode cX9_pattern 140 = .ok (.iload 6, 2) := by decide +kernel
theorem dX9_pattern_142 : decode cX9_pattern 142 = .ok (.iload 4, 2) := by decide +kernel
theorem dX9_pattern_144 : decode cX9_pattern 144 = .ok (.iastore, 1) := by decide +kernel
theorem dX9_pattern_145 : decode cX9_pattern 145 = .ok (.aload_n 0, 1) := by decide +kernel
theorem dX9_pattern_146 : decode cX9_pattern 146 = .ok (.getfield 38, 3) := by decide +kernel
theorem dX9_pattern_149 : decode cX9_pattern 149 = .ok (.iload_n 1, 1) := by decide +kernel
theorem dX9_pattern_150 : decode cX9_pattern 150 = .ok (.dup2, 1) := by decide +kernel
theorem dX9_pattern_151 : decode cX9_pattern 151 = .ok (.iaload, 1) := by decide +kernel
theorem dX9_pattern_152 : decode cX9_pattern 152 = .ok (.iconst 1, 1) := by decide +kernel
theorem dX9_pattern_153 : decode cX9_pattern 153 = .ok (.iadd, 1) := by decide +kernel
theorem dX9_pattern_154 : decode cX9_pattern 154 = .ok (.iastore, 1) := by decide +kernel
theorem dX9_pattern_155 : decode cX9_pattern 155 = .ok (.aload_n 0, 1) := by decide +kernel
theorem dX9_pattern_156 : decode cX9_pattern 156 = .ok (.getfield 38, 3) := by decide +kernel
theorem dX9_pattern_159 : decode cX9_pattern 159 = .ok (.iload_n 1, 1) := by decide +kernel
theorem dX9_pattern_160 : decode cX9_pattern 160 = .ok (.iaload, 1) := by decide +kernel
theorem dX9_pattern_161 : decode cX9_pattern 161 = .ok (.ireturn, 1) := by decide +kernel
theorem dX9_file_0 : decode cX9_file 0 = .ok (.aload_n 0, 1) := by decide +kernel
theorem dX9_file_1 : decode cX9_file 1 = .ok (.iload_n 1, 1) := by decide +kernel
theorem dX9_file_2 : decode cX9_file 2 = .ok (.iconst 0, 1) := by decide +kernel
theorem dX9_file_3 : decode cX9_file 3 = .ok (.iconst 3, 1) := by decide +kernel
theorem dX9_file_4 : decode cX9_file 4 = .ok (.invokestatic 135, 3) := by decide +kernel
theorem dX9_file_7 : decode cX9_file 7 = .ok (.ifCond .ne 7, 3) := by decide +kernel
theorem dX9_file_10 : decode cX9_file 10 = .ok (.iconst 1, 1) := by decide +kernel
theorem dX9_file_11 : decode cX9_file 11 = .ok (.goto 45, 3) := by decide +kernel
theorem dX9_file_14 : decode cX9_file 14 = .ok (.iload_n 2, 1) := by decide +kernel
theorem dX9_file_15 : decode cX9_file 15 = .ok (.invokestatic 147, 3) := by decide +kernel
theorem dX9_file_18 : decode cX9_file 18 = .ok (.ifCond .eq 18, 3) := by decide +kernel
theorem dX9_file_21 : decode cX9_file 21 = .ok (.iload_n 3, 1) := by decide +kernel
theorem dX9_file_22 : decode cX9_file 22 = .ok (.invokestatic 147, 3) := by decide +kernel
theorem dX9_file_25 : decode cX9_file 25 = .ok (.ifCond .eq 11, 3) := by decide +kernel
theorem dX9_file_28 : decode cX9_file 28 = .ok (.iload 4, 2) := by decide +kernel
theorem dX9_file_30 : decode cX9_file 30 = .ok (.invokestatic 147, 3) := by decide +kernel
theorem dX9_file_33 : decode cX9_file 33 = .ok (.ifCond .ne 7, 3) := by decide +kernel
theorem dX9_file_36 : decode cX9_file 36 = .ok (.iconst 2, 1) := by decide +kernel
theorem dX9_file_37 : decode cX9_file 37 = .ok (.goto 19, 3) := by decide +kernel
theorem dX9_file_40 : decode cX9_file 40 = .ok (.aload_n 0, 1) := by decide +kernel
theorem dX9_file_41 : decode cX9_file 41 = .ok (.getfield 50, 3) := by decide +kernel
theorem dX9_file_44 : decode cX9_file 44 = .ok (.iload_n 1, 1) := by decide +kernel
theorem dX9_file_45 : decode cX9_file 45 = .ok (.iaload, 1) := by decide +kernel
theorem dX9_file_46 : decode cX9_file 46 = .ok (.bipush 10, 2) := by decide +kernel
theorem dX9_file_48 : decode cX9_file 48 = .ok (.if_icmp .ne 7, 3) := by decide +kernel
theorem dX9_file_51 : decode cX9_file 51 = .ok (.iconst 3, 1) := by decide +kernel
theorem dX9_file_52 : decode cX9_file 52 = .ok (.goto 4, 3) := by decide +kernel
theorem dX9_file_55 : decode cX9_file 55 = .ok (.iconst 0, 1) := by decide +kernel
theorem dX9_file_56 : decode cX9_file 56 = .ok (.putfield 129, 3) := by decide +kernel
theorem dX9_file_59 : decode cX9_file 59 = .ok (.aload_n 0, 1) := by decide +kernel
theorem dX9_file_60 : decode cX9_file 60 = .ok (.getfield 129, 3) := by decide +kernel
theorem dX9_file_63 : decode cX9_file 63 = .ok (.ifCond .le 5, 3) := by decide +kernel
theorem dX9_file_66 : decode cX9_file 66 = .ok (.iconst 0, 1) := by decide +kernel
theorem dX9_file_67 : decode cX9_file 67 = .ok (.ireturn, 1) := by decide +kernel
theorem dX9_file_68 : decode cX9_file 68 = .ok (.bipush 10, 2) := by decide +kernel
theorem dX9_file_70 : decode cX9_file 70 = .ok (.iload_n 1, 1) := by decide +kernel
theorem dX9_file_71 : decode cX9_file 71 = .ok (.imul, 1) := by decide +kernel
theorem dX9_file_72 : decode cX9_file 72 = .ok (.aload_n 0, 1) := by decide +kernel
theorem dX9_file_73 : decode cX9_file 73 = .ok (.getfield 50, 3) := by decide +kernel
theorem dX9_file_76 : decode cX9_file 76 = .ok (.iload_n 1, 1) := by decide +kernel
theorem dX9_file_77 : decode cX9_file 77 = .ok (.iaload, 1) := by decide +kernel
theorem dX9_file_78 : decode cX9_file 78 = .ok (.iadd, 1) := by decide +kernel
theorem dX9_file_79 : decode cX9_file 79 = .ok (.istore 5, 2) := by decide +kernel
theorem dX9_file_81 : decode cX9_file 81 = .ok (.aload_n 0, 1) := by decide +kernel
end
end
section
section
theorem dX9_file_82 : decode cX9_file 82 = .ok (.getfield 53, 3) := by decide +kernel
theorem dX9_file_85 : decode cX9_file 85 = .ok (.iload 5, 2) := by decide +kernel
theorem dX9_file_87 : decode cX9_file 87 = .ok (.iload_n 2, 1) := by decide +kernel
theorem dX9_file_88 : decode cX9_file 88 = .ok (.iastore, 1) := by decide +kernel
theorem dX9_file_89 : decode cX9_file 89 = .ok (.aload_n 0, 1) := by decide +kernel
theorem dX9_file_90 : decode cX9_file 90 = .ok (.getfield 56, 3) := by decide +kernel
theorem dX9_file_93 : decode cX9_file 93 = .ok (.iload 5, 2) := by decide +kernel
theorem dX9_file_95 : decode cX9_file 95 = .ok (.iload_n 3, 1) := by decide +kernel
theorem dX9_file_96 : decode cX9_file 96 = .ok (.iastore, 1) := by decide +kernel
theorem dX9_file_97 : decode cX9_file 97 = .ok (.aload_n 0, 1) := by decide +kernel
theorem dX9_file_98 : decode cX9_file 98 = .ok (.getfield 59, 3) := by decide +kernel
theorem dX9_file_101 : decode cX9_file 101 = .ok (.iload 5, 2) := by decide +kernel
theorem dX9_file_103 : decode cX9_file 103 = .ok (.iload 4, 2) := by decide +kernel
theorem dX9_file_105 : decode cX9_file 105 = .ok (.iastore, 1) := by decide +kernel
theorem dX9_file_106 : decode cX9_file 106 = .ok (.aload_n 0, 1) := by decide +kernel
theorem dX9_file_107 : decode cX9_file 107 = .ok (.getfield 50, 3) := by decide +kernel
theorem dX9_file_110 : decode cX9_file 110 = .ok (.iload_n 1, 1) := by decide +kernel
theorem dX9_file_111 : decode cX9_file 111 = .ok (.dup2, 1) := by decide +kernel
theorem dX9_file_112 : decode cX9_file 112 = .ok (.iaload, 1) := by decide +kernel
theorem dX9_file_113 : decode cX9_file 113 = .ok (.iconst 1, 1) := by decide +kernel
theorem dX9_file_114 : decode cX9_file 114 = .ok (.iadd, 1) := by decide +kernel
theorem dX9_file_115 : decode cX9_file 115 = .ok (.iastore, 1) := by decide +kernel
theorem dX9_file_116 : decode cX9_file 116 = .ok (.aload_n 0, 1) := by decide +kernel
theorem dX9_file_117 : decode cX9_file 117 = .ok (.getfield 50, 3) := by decide +kernel
theorem dX9_file_120 : decode cX9_file 120 = .ok (.iload_n 1, 1) := by decide +kernel
theorem dX9_file_121 : decode cX9_file 121 = .ok (.iaload, 1) := by decide +kernel
theorem dX9_file_122 : decode cX9_file 122 = .ok (.ireturn, 1) := by decide +kernel
theorem dX9_torn_0 : decode cX9_torn 0 = .ok (.aload_n 0, 1) := by decide +kernel
theorem dX9_torn_1 : decode cX9_torn 1 = .ok (.iload_n 1, 1) := by decide +kernel
theorem dX9_torn_2 : decode cX9_torn 2 = .ok (.iconst 0, 1) := by decide +kernel
theorem dX9_torn_3 : decode cX9_torn 3 = .ok (.iconst 3, 1) := by decide +kernel
theorem dX9_torn_4 : decode cX9_torn 4 = .ok (.invokestatic 135, 3) := by decide +kernel
theorem dX9_torn_7 : decode cX9_torn 7 = .ok (.ifCond .eq 7, 3) := by decide +kernel
theorem dX9_torn_10 : decode cX9_torn 10 = .ok (.iconst 0, 1) := by decide +kernel
theorem dX9_torn_11 : decode cX9_torn 11 = .ok (.goto 4, 3) := by decide +kernel
theorem dX9_torn_14 : decode cX9_torn 14 = .ok (.iconst 1, 1) := by decide +kernel
theorem dX9_torn_15 : decode cX9_torn 15 = .ok (.putfield 129, 3) := by decide +kernel
theorem dX9_torn_18 : decode cX9_torn 18 = .ok (.aload_n 0, 1) := by decide +kernel
theorem dX9_torn_19 : decode cX9_torn 19 = .ok (.getfield 129, 3) := by decide +kernel
theorem dX9_torn_22 : decode cX9_torn 22 = .ok (.ifCond .le 5, 3) := by decide +kernel
theorem dX9_torn_25 : decode cX9_torn 25 = .ok (.iconst 0, 1) := by decide +kernel
theorem dX9_torn_26 : decode cX9_torn 26 = .ok (.ireturn, 1) := by decide +kernel
theorem dX9_torn_27 : decode cX9_torn 27 = .ok (.aload_n 0, 1) := by decide +kernel
theorem dX9_torn_28 : decode cX9_torn 28 = .ok (.getfield 62, 3) := by decide +kernel
theorem dX9_torn_31 : decode cX9_torn 31 = .ok (.iload_n 1, 1) := by decide +kernel
theorem dX9_torn_32 : decode cX9_torn 32 = .ok (.baload, 1) := by decide +kernel
theorem dX9_torn_33 : decode cX9_torn 33 = .ok (.istore_n 3, 1) := by decide +kernel
theorem dX9_torn_34 : decode cX9_torn 34 = .ok (.aload_n 0, 1) := by decide +kernel
theorem dX9_torn_35 : decode cX9_torn 35 = .ok (.getfield 62, 3) := by decide +kernel
theorem dX9_torn_38 : decode cX9_torn 38 = .ok (.iload_n 1, 1) := by decide +kernel
theorem dX9_torn_39 : decode cX9_torn 39 = .ok (.iload_n 2, 1) := by decide +kernel
theorem dX9_torn_40 : decode cX9_torn 40 = .ok (.bastore, 1) := by decide +kernel
theorem dX9_torn_41 : decode cX9_torn 41 = .ok (.iload_n 3, 1) := by decide +kernel
theorem dX9_torn_42 : decode cX9_torn 42 = .ok (.ireturn, 1) := by decide +kernel
theorem dX9_find_0 : decode cX9_find 0 = .ok (.iconst (-1), 1) := by decide +kernel
theorem dX9_find_1 : decode cX9_find 1 = .ok (.istore 5, 2) := by decide +kernel
theorem dX9_find_3 : decode cX9_find 3 = .ok (.iconst 0, 1) := by decide +kernel
theorem dX9_find_4 : decode cX9_find 4 = .ok (.istore 6, 2) := by decide +kernel
theorem dX9_find_6 : decode cX9_find 6 = .ok (.iload 6, 2) := by decide +kernel
theorem dX9_find_8 : decode cX9_find 8 = .ok (.aload_n 0, 1) := by decide +kernel
theorem dX9_find_9 : decode cX9_find 9 = .ok (.getfield 160, 3) := by decide +kernel
theorem dX9_find_12 : decode cX9_find 12 = .ok (.if_icmp .ge 63, 3) := by decide +kernel
theorem dX9_find_15 : decode cX9_find 15 = .ok (.aload_n 0, 1) := by decide +kernel
theorem dX9_find_16 : decode cX9_find 16 = .ok (.getfield 65, 3) := by decide +kernel
theorem dX9_find_19 : decode cX9_find 19 = .ok (.iload 6, 2) := by decide +kernel
theorem dX9_find_21 : decode cX9_find 21 = .ok (.iaload, 1) := by decide +kernel
theorem dX9_find_22 : decode cX9_find 22 = .ok (.iload_n 1, 1) := by decide +kernel
theorem dX9_find_23 : decode cX9_find 23 = .ok (.if_icmp .ne 42, 3) := by decide +kernel
theorem dX9_find_26 : decode cX9_find 26 = .ok (.aload_n 0, 1) := by decide +kernel
theorem dX9_find_27 : decode cX9_find 27 = .ok (.getfield 68, 3) := by decide +kernel
theorem dX9_find_30 : decode cX9_find 30 = .ok (.iload 6, 2) := by decide +kernel
theorem dX9_find_32 : decode cX9_find 32 = .ok (.iaload, 1) := by decide +kernel
theorem dX9_find_33 : decode cX9_find 33 = .ok (.iload_n 2, 1) := by decide +kernel
theorem dX9_find_34 : decode cX9_find 34 = .ok (.if_icmp .ne 31, 3) := by decide +kernel
theorem dX9_find_37 : decode cX9_find 37 = .ok (.aload_n 0, 1) := by decide +kernel
theorem dX9_find_38 : decode cX9_find 38 = .ok (.getfield 71, 3) := by decide +kernel
theorem dX9_find_41 : decode cX9_find 41 = .ok (.iload 6, 2) := by decide +kernel
theorem dX9_find_43 : decode cX9_find 43 = .ok (.iaload, 1) := by decide +kernel
theorem dX9_find_44 : decode cX9_find 44 = .ok (.iload_n 3, 1) := by decide +kernel
theorem dX9_find_45 : decode cX9_find 45 = .ok (.if_icmp .ne 20, 3) := by decide +kernel
theorem dX9_find_48 : decode cX9_find 48 = .ok (.aload_n 0, 1) := by decide +kernel
theorem dX9_find_49 : decode cX9_find 49 = .ok (.getfield 74, 3) := by decide +kernel
theorem dX9_find_52 : decode cX9_find 52 = .ok (.iload 6, 2) := by decide +kernel
theorem dX9_find_54 : decode cX9_find 54 = .ok (.iaload, 1) := by decide +kernel
theorem dX9_find_55 : decode cX9_find 55 = .ok (.iload 4, 2) := by decide +kernel
theorem dX9_find_57 : decode cX9_find 57 = .ok (.if_icmp .ne 8, 3) := by decide +kernel
theorem dX9_find_60 : decode cX9_find 60 = .ok (.iload 6, 2) := by decide +kernel
theorem dX9_find_62 : decode cX9_find 62 = .ok (.goto 5, 3) := by decide +kernel
theorem dX9_find_65 : decode cX9_find 65 = .ok (.iload 5, 2) := by decide +kernel
theorem dX9_find_67 : decode cX9_find 67 = .ok (.istore 5, 2) := by decide +kernel
theorem dX9_find_69 : decode cX9_find 69 = .ok (.iinc 6 1, 3) := by decide +kernel
theorem dX9_find_72 : decode cX9_find 72 = .ok (.goto (-66), 3) := by decide +kernel
theorem dX9_find_75 : decode cX9_find 75 = .ok (.iload 5, 2) := by decide +kernel
theorem dX9_find_77 : decode cX9_find 77 = .ok (.ireturn, 1) := by decide +kernel
theorem dX9_come_0 : decode cX9_come 0 = .ok (.aload_n 0, 1) := by decide +kernel
theorem dX9_come_1 : decode cX9_come 1 = .ok (.iload_n 1, 1) := by decide +kernel
theorem dX9_come_2 : decode cX9_come 2 = .ok (.iload_n 2, 1) := by decide +kernel
theorem dX9_come_3 : decode cX9_come 3 = .ok (.iload_n 3, 1) := by decide +kernel
theorem dX9_come_4 : decode cX9_come 4 = .ok (.iload 4, 2) := by decide +kernel
theorem dX9_come_6 : decode cX9_come 6 = .ok (.invokevirtual 163, 3) := by decide +kernel
theorem dX9_come_9 : decode cX9_come 9 = .ok (.ifCond .lt 5, 3) := by decide +kernel
theorem dX9_come_12 : decode cX9_come 12 = .ok (.iconst 1, 1) := by decide +kernel
theorem dX9_come_13 : decode cX9_come 13 = .ok (.ireturn, 1) := by decide +kernel
theorem dX9_come_14 : decode cX9_come 14 = .ok (.aload_n 0, 1) := by decide +kernel
theorem dX9_come_15 : decode cX9_come 15 = .ok (.getfield 160, 3) := by decide +kernel
theorem dX9_come_18 : decode cX9_come 18 = .ok (.bipush 120, 2) := by decide +kernel
theorem dX9_come_20 : decode cX9_come 20 = .ok (.if_icmp .ne 5, 3) := by decide +kernel
theorem dX9_come_23 : decode cX9_come 23 = .ok (.iconst 0, 1) := by decide +kernel
theorem dX9_come_24 : decode cX9_come 24 = .ok (.ireturn, 1) := by decide +kernel
theorem dX9_come_25 : decode cX9_come 25 = .ok (.aload_n 0, 1) := by decide +kernel
theorem dX9_come_26 : decode cX9_come 26 = .ok (.getfield 65, 3) := by decide +kernel
theorem dX9_come_29 : decode cX9_come 29 = .ok (.aload_n 0, 1) := by decide +kernel
theorem dX9_come_30 : decode cX9_come 30 = .ok (.getfield 160, 3) := by decide +kernel
theorem dX9_come_33 : decode cX9_come 33 = .ok (.iload_n 1, 1) := by decide +kernel
theorem dX9_come_34 : decode cX9_come 34 = .ok (.iastore, 1) := by decide +kernel
theorem dX9_come_35 : decode cX9_come 35 = .ok (.aload_n 0, 1) := by decide +kernel
theorem dX9_come_36 : decode cX9_come 36 = .ok (.getfield 68, 3) := by decide +kernel
theorem dX9_come_39 : decode cX9_come 39 = .ok (.aload_n 0, 1) := by decide +kernel
theorem dX9_come_40 : decode cX9_come 40 = .ok (.getfield 160, 3) := by decide +kernel
theorem dX9_come_43 : decode cX9_come 43 = .ok (.iload_n 2, 1) := by decide +kernel
theorem dX9_come_44 : decode cX9_come 44 = .ok (.iastore, 1) := by decide +kernel
theorem dX9_come_45 : decode cX9_come 45 = .ok (.aload_n 0, 1) := by decide +kernel
theorem dX9_come_46 : decode cX9_come 46 = .ok (.getfield 71, 3) := by decide +kernel
theorem dX9_come_49 : decode cX9_come 49 = .ok (.aload_n 0, 1) := by decide +kernel
theorem dX9_come_50 : decode cX9_come 50 = .ok (.getfield 160, 3) := by decide +kernel
theorem dX9_come_53 : decode cX9_come 53 = .ok (.iload_n 3, 1) := by decide +kernel
theorem dX9_come_54 : decode cX9_come 54 = .ok (.iastore, 1) := by decide +kernel
theorem dX9_come_55 : decode cX9_come 55 = .ok (.aload_n 0, 1) := by decide +kernel
theorem dX9_come_56 : decode cX9_come 56 = .ok (.getfield 74, 3) := by decide +kernel
theorem dX9_come_59 : decode cX9_come 59 = .ok (.aload_n 0, 1) := by decide +kernel
theorem dX9_come_60 : decode cX9_come 60 = .ok (.getfield 160, 3) := by decide +kernel
theorem dX9_come_63 : decode cX9_come 63 = .ok (.iload 4, 2) := by decide +kernel
theorem dX9_come_65 : decode cX9_come 65 = .ok (.iastore, 1) := by decide +kernel
theorem dX9_come_66 : decode cX9_come 66 = .ok (.aload_n 0, 1) := by decide +kernel
theorem dX9_come_67 : decode cX9_come 67 = .ok (.dup, 1) := by decide +kernel
theorem dX9_come_68 : decode cX9_come 68 = .ok (.getfield 160, 3) := by decide +kernel
theorem dX9_come_71 : decode cX9_come 71 = .ok (.iconst 1, 1) := by decide +kernel
theorem dX9_come_72 : decode cX9_come 72 = .ok (.iadd, 1) := by decide +kernel
theorem dX9_come_73 : decode cX9_come 73 = .ok (.putfield 160, 3) := by decide +kernel
theorem dX9_come_76 : decode cX9_come 76 = .ok (.iconst 1, 1) := by decide +kernel
theorem dX9_come_77 : decode cX9_come 77 = .ok (.ireturn, 1) := by decide +kernel
theorem dX9_leave_0 : decode cX9_leave 0 = .ok (.aload_n 0, 1) := by decide +kernel
theorem dX9_leave_1 : decode cX9_leave 1 = .ok (.dup, 1) := by decide +kernel
theorem dX9_leave_2 : decode cX9_leave 2 = .ok (.getfield 160, 3) := by decide +kernel
theorem dX9_leave_5 : decode cX9_leave 5 = .ok (.iconst 1, 1) := by decide +kernel
theorem dX9_leave_6 : decode cX9_leave 6 = .ok (.isub, 1) := by decide +kernel
theorem dX9_leave_7 : decode cX9_leave 7 = .ok (.putfield 160, 3) := by decide +kernel
theorem dX9_leave_10 : decode cX9_leave 10 = .ok (.aload_n 0, 1) := by decide +kernel
theorem dX9_leave_11 : decode cX9_leave 11 = .ok (.getfield 65, 3) := by decide +kernel
theorem dX9_leave_14 : decode cX9_leave 14 = .ok (.iload_n 1, 1) := by decide +kernel
theorem dX9_leave_15 : decode cX9_leave 15 = .ok (.aload_n 0, 1) := by decide +kernel
theorem dX9_leave_16 : decode cX9_leave 16 = .ok (.getfield 65, 3) := by decide +kernel
theorem dX9_leave_19 : decode cX9_leave 19 = .ok (.aload_n 0, 1) := by decide +kernel
theorem dX9_leave_20 : decode cX9_leave 20 = .ok (.getfield 160, 3) := by decide +kernel
theorem dX9_leave_23 : decode cX9_leave 23 = .ok (.iaload, 1) := by decide +kernel
theorem dX9_leave_24 : decode cX9_leave 24 = .ok (.iastore, 1) := by decide +kernel
theorem dX9_leave_25 : decode cX9_leave 25 = .ok (.aload_n 0, 1) := by decide +kernel
theorem dX9_leave_26 : decode cX9_leave 26 = .ok (.getfield 68, 3) := by decide +kernel
theorem dX9_leave_29 : decode cX9_leave 29 = .ok (.iload_n 1, 1) := by decide +kernel
theorem dX9_leave_30 : decode cX9_leave 30 = .ok (.aload_n 0, 1) := by decide +kernel
theorem dX9_leave_31 : decode cX9_leave 31 = .ok (.getfield 68, 3) := by decide +kernel
theorem dX9_leave_34 : decode cX9_leave 34 = .ok (.aload_n 0, 1) := by decide +kernel
theorem dX9_leave_35 : decode cX9_leave 35 = .ok (.getfield 160, 3) := by decide +kernel
theorem dX9_leave_38 : decode cX9_leave 38 = .ok (.iaload, 1) := by decide +kernel
theorem dX9_leave_39 : decode cX9_leave 39 = .ok (.iastore, 1) := by decide +kernel
theorem dX9_leave_40 : decode cX9_leave 40 = .ok (.aload_n 0, 1) := by decide +kernel
theorem dX9_leave_41 : decode cX9_leave 41 = .ok (.getfield 71, 3) := by decide +kernel
theorem dX9_leave_44 : decode cX9_leave 44 = .ok (.iload_n 1, 1) := by decide +kernel
theorem dX9_leave_45 : decode cX9_leave 45 = .ok (.aload_n 0, 1) := by decide +kernel
theorem dX9_leave_46 : decode cX9_leave 46 = .ok (.getfield 71, 3) := by decide +kernel
theorem dX9_leave_49 : decode cX9_leave 49 = .ok (.aload_n 0, 1) := by decide +kernel
theorem dX9_leave_50 : decode cX9_leave 50 = .ok (.getfield 160, 3) := by decide +kernel
theorem dX9_leave_53 : decode cX9_leave 53 = .ok (.iaload, 1) := by decide +kernel
theorem dX9_leave_54 : decode cX9_leave 54 = .ok (.iastore, 1) := by decide +kernel
theorem dX9_leave_55 : decode cX9_leave 55 = .ok (.aload_n 0, 1) := by decide +kernel
theorem dX9_leave_56 : decode cX9_leave 56 = .ok (.getfield 74, 3) := by decide +kernel
theorem dX9_leave_59 : decode cX9_leave 59 = .ok (.iload_n 1, 1) := by decide +kernel
theorem dX9_leave_60 : decode cX9_leave 60 = .ok (.aload_n 0, 1) := by decide +kernel
theorem dX9_leave_61 : decode cX9_leave 61 = .ok (.getfield 74, 3) := by decide +kernel
theorem dX9_leave_64 : decode cX9_leave 64 = .ok (.aload_n 0, 1) := by decide +kernel
theorem dX9_leave_65 : decode cX9_leave 65 = .ok (.getfield 160, 3) := by decide +kernel
theorem dX9_leave_68 : decode cX9_leave 68 = .ok (.iaload, 1) := by decide +kernel
theorem dX9_leave_69 : decode cX9_leave 69 = .ok (.iastore, 1) := by decide +kernel
theorem dX9_leave_70 : decode cX9_leave 70 = .ok (.return_, 1) := by decide +kernel
theorem dX9_take_0 : decode cX9_take 0 = .ok (.aload_n 0, 1) := by decide +kernel
theorem dX9_take_1 : decode cX9_take 1 = .ok (.iload_n 1, 1) := by decide +kernel
theorem dX9_take_2 : decode cX9_take 2 = .ok (.iload_n 2, 1) := by decide +kernel
theorem dX9_take_3 : decode cX9_take 3 = .ok (.iload_n 3, 1) := by decide +kernel
theorem dX9_take_4 : decode cX9_take 4 = .ok (.iload 4, 2) := by decide +kernel
theorem dX9_take_6 : decode cX9_take 6 = .ok (.invokevirtual 163, 3) := by decide +kernel
theorem dX9_take_9 : decode cX9_take 9 = .ok (.istore 5, 2) := by decide +kernel
theorem dX9_take_11 : decode cX9_take 11 = .ok (.iload 5, 2) := by decide +kernel
theorem dX9_take_13 : decode cX9_take 13 = .ok (.ifCond .lt 9, 3) := by decide +kernel
theorem dX9_take_16 : decode cX9_take 16 = .ok (.aload_n 0, 1) := by decide +kernel
theorem dX9_take_17 : decode cX9_take 17 = .ok (.iload 5, 2) := by decide +kernel
theorem dX9_take_19 : decode cX9_take 19 = .ok (.invokevirtual 167, 3) := by decide +kernel
theorem dX9_take_22 : decode cX9_take 22 = .ok (.return_, 1) := by decide +kernel
theorem dX9_empty_0 : decode cX9_empty 0 = .ok (.iconst 0, 1) := by decide +kernel
theorem dX9_empty_1 : decode cX9_empty 1 = .ok (.istore_n 2, 1) := by decide +kernel
theorem dX9_empty_2 : decode cX9_empty 2 = .ok (.iload_n 2, 1) := by decide +kernel
theorem dX9_empty_3 : decode cX9_empty 3 = .ok (.aload_n 0, 1) := by decide +kernel
theorem dX9_empty_4 : decode cX9_empty 4 = .ok (.getfield 160, 3) := by decide +kernel
theorem dX9_empty_7 : decode cX9_empty 7 = .ok (.if_icmp .ge 27, 3) := by decide +kernel
theorem dX9_empty_10 : decode cX9_empty 10 = .ok (.aload_n 0, 1) := by decide +kernel
theorem dX9_empty_11 : decode cX9_empty 11 = .ok (.getfield 65, 3) := by decide +kernel
theorem dX9_empty_14 : decode cX9_empty 14 = .ok (.iload_n 2, 1) := by decide +kernel
theorem dX9_empty_15 : decode cX9_empty 15 = .ok (.iaload, 1) := by decide +kernel
theorem dX9_empty_16 : decode cX9_empty 16 = .ok (.iload_n 1, 1) := by decide +kernel
theorem dX9_empty_17 : decode cX9_empty 17 = .ok (.if_icmp .ne 11, 3) := by decide +kernel
theorem dX9_empty_20 : decode cX9_empty 20 = .ok (.aload_n 0, 1) := by decide +kernel
theorem dX9_empty_21 : decode cX9_empty 21 = .ok (.iload_n 2, 1) := by decide +kernel
theorem dX9_empty_22 : decode cX9_empty 22 = .ok (.invokevirtual 167, 3) := by decide +kernel
theorem dX9_empty_25 : decode cX9_empty 25 = .ok (.goto (-23), 3) := by decide +kernel
theorem dX9_empty_28 : decode cX9_empty 28 = .ok (.iinc 2 1, 3) := by decide +kernel
theorem dX9_empty_31 : decode cX9_empty 31 = .ok (.goto (-29), 3) := by decide +kernel
theorem dX9_empty_34 : decode cX9_empty 34 = .ok (.return_, 1) := by decide +kernel
theorem dX9_dropOne_0 : decode cX9_dropOne 0 = .ok (.aload_n 0, 1) := by decide +kernel
theorem dX9_dropOne_1 : decode cX9_dropOne 1 = .ok (.iload_n 1, 1) := by decide +kernel
theorem dX9_dropOne_2 : decode cX9_dropOne 2 = .ok (.invokevirtual 171, 3) := by decide +kernel
theorem dX9_dropOne_5 : decode cX9_dropOne 5 = .ok (.aload_n 0, 1) := by decide +kernel
theorem dX9_dropOne_6 : decode cX9_dropOne 6 = .ok (.getfield 77, 3) := by decide +kernel
theorem dX9_dropOne_9 : decode cX9_dropOne 9 = .ok (.iload_n 1, 1) := by decide +kernel
theorem dX9_dropOne_10 : decode cX9_dropOne 10 = .ok (.iload_n 1, 1) := by decide +kernel
theorem dX9_dropOne_11 : decode cX9_dropOne 11 = .ok (.ifCond .ne 7, 3) := by decide +kernel
theorem dX9_dropOne_14 : decode cX9_dropOne 14 = .ok (.iconst 1, 1) := by decide +kernel
theorem dX9_dropOne_15 : decode cX9_dropOne 15 = .ok (.goto 4, 3) := by decide +kernel
theorem dX9_dropOne_18 : decode cX9_dropOne 18 = .ok (.iconst 0, 1) := by decide +kernel
theorem dX9_dropOne_19 : decode cX9_dropOne 19 = .ok (.bastore, 1) := by decide +kernel
theorem dX9_dropOne_20 : decode cX9_dropOne 20 = .ok (.return_, 1) := by decide +kernel
theorem dX9_isBefore_0 : decode cX9_isBefore 0 = .ok (.aload_n 0, 1) := by decide +kernel
theorem dX9_isBefore_1 : decode cX9_isBefore 1 = .ok (.getfield 68, 3) := by decide +kernel
theorem dX9_isBefore_4 : decode cX9_isBefore 4 = .ok (.iload_n 1, 1) := by decide +kernel
theorem dX9_isBefore_5 : decode cX9_isBefore 5 = .ok (.iaload, 1) := by decide +kernel
theorem dX9_isBefore_6 : decode cX9_isBefore 6 = .ok (.aload_n 0, 1) := by decide +kernel
theorem dX9_isBefore_7 : decode cX9_isBefore 7 = .ok (.getfield 68, 3) := by decide +kernel
theorem dX9_isBefore_10 : decode cX9_isBefore 10 = .ok (.iload_n 2, 1) := by decide +kernel
theorem dX9_isBefore_11 : decode cX9_isBefore 11 = .ok (.iaload, 1) := by decide +kernel
theorem dX9_isBefore_12 : decode cX9_isBefore 12 = .ok (.if_icmp .eq 24, 3) := by decide +kernel
theorem dX9_isBefore_15 : decode cX9_isBefore 15 = .ok (.aload_n 0, 1) := by decide +kernel
theorem dX9_isBefore_16 : decode cX9_isBefore 16 = .ok (.getfield 68, 3) := by decide +kernel
theorem dX9_isBefore_19 : decode cX9_isBefore 19 = .ok (.iload_n 1, 1) := by decide +kernel
theorem dX9_isBefore_20 : decode cX9_isBefore 20 = .ok (.iaload, 1) := by decide +kernel
theorem dX9_isBefore_21 : decode cX9_isBefore 21 = .ok (.aload_n 0, 1) := by decide +kernel
theorem dX9_isBefore_22 : decode cX9_isBefore 22 = .ok (.getfield 68, 3) := by decide +kernel
theorem dX9_isBefore_25 : decode cX9_isBefore 25 = .ok (.iload_n 2, 1) := by decide +kernel
theorem dX9_isBefore_26 : decode cX9_isBefore 26 = .ok (.iaload, 1) := by decide +kernel
theorem dX9_isBefore_27 : decode cX9_isBefore 27 = .ok (.if_icmp .ge 7, 3) := by decide +kernel
theorem dX9_isBefore_30 : decode cX9_isBefore 30 = .ok (.iconst 1, 1) := by decide +kernel
theorem dX9_isBefore_31 : decode cX9_isBefore 31 = .ok (.goto 4, 3) := by decide +kernel
theorem dX9_isBefore_34 : decode cX9_isBefore 34 = .ok (.iconst 0, 1) := by decide +kernel
theorem dX9_isBefore_35 : decode cX9_isBefore 35 = .ok (.ireturn, 1) := by decide +kernel
theorem dX9_isBefore_36 : decode cX9_isBefore 36 = .ok (.aload_n 0, 1) := by decide +kernel
theorem dX9_isBefore_37 : decode cX9_isBefore 37 = .ok (.getfield 71, 3) := by decide +kernel
theorem dX9_isBefore_40 : decode cX9_isBefore 40 = .ok (.iload_n 1, 1) := by decide +kernel
theorem dX9_isBefore_41 : decode cX9_isBefore 41 = .ok (.iaload, 1) := by decide +kernel
theorem dX9_isBefore_42 : decode cX9_isBefore 42 = .ok (.aload_n 0, 1) := by decide +kernel
theorem dX9_isBefore_43 : decode cX9_isBefore 43 = .ok (.getfield 71, 3) := by decide +kernel
theorem dX9_isBefore_46 : decode cX9_isBefore 46 = .ok (.iload_n 2, 1) := by decide +kernel
theorem dX9_isBefore_47 : decode cX9_isBefore 47 = .ok (.iaload, 1) := by decide +kernel
theorem dX9_isBefore_48 : decode cX9_isBefore 48 = .ok (.if_icmp .eq 26, 3) := by decide +kernel
theorem dX9_isBefore_51 : decode cX9_isBefore 51 = .ok (.aload_n 0, 1) := by decide +kernel
theorem dX9_isBefore_52 : decode cX9_isBefore 52 = .ok (.getfield 71, 3) := by decide +kernel
theorem dX9_isBefore_55 : decode cX9_isBefore 55 = .ok (.iload_n 1, 1) := by decide +kernel
theorem dX9_isBefore_56 : decode cX9_isBefore 56 = .ok (.iaload, 1) := by decide +kernel
theorem dX9_isBefore_57 : decode cX9_isBefore 57 = .ok (.aload_n 0, 1) := by decide +kernel
theorem dX9_isBefore_58 : decode cX9_isBefore 58 = .ok (.getfield 71, 3) := by decide +kernel
theorem dX9_isBefore_61 : decode cX9_isBefore 61 = .ok (.iload_n 2, 1) := by decide +kernel
theorem dX9_isBefore_62 : decode cX9_isBefore 62 = .ok (.iaload, 1) := by decide +kernel
theorem dX9_isBefore_63 : decode cX9_isBefore 63 = .ok (.if_icmp .ge 7, 3) := by decide +kernel
theorem dX9_isBefore_66 : decode cX9_isBefore 66 = .ok (.iconst 1, 1) := by decide +kernel
theorem dX9_isBefore_67 : decode cX9_isBefore 67 = .ok (.goto 27, 3) := by decide +kernel
theorem dX9_isBefore_70 : decode cX9_isBefore 70 = .ok (.iconst 0, 1) := by decide +kernel
theorem dX9_isBefore_71 : decode cX9_isBefore 71 = .ok (.goto 23, 3) := by decide +kernel
theorem dX9_isBefore_74 : decode cX9_isBefore 74 = .ok (.aload_n 0, 1) := by decide +kernel
theorem dX9_isBefore_75 : decode cX9_isBefore 75 = .ok (.getfield 74, 3) := by decide +kernel
theorem dX9_isBefore_78 : decode cX9_isBefore 78 = .ok (.iload_n 1, 1) := by decide +kernel
theorem dX9_isBefore_79 : decode cX9_isBefore 79 = .ok (.iaload, 1) := by decide +kernel
theorem dX9_isBefore_80 : decode cX9_isBefore 80 = .ok (.aload_n 0, 1) := by decide +kernel
theorem dX9_isBefore_81 : decode cX9_isBefore 81 = .ok (.getfield 74, 3) := by decide +kernel
theorem dX9_isBefore_84 : decode cX9_isBefore 84 = .ok (.iload_n 2, 1) := by decide +kernel
theorem dX9_isBefore_85 : decode cX9_isBefore 85 = .ok (.iaload, 1) := by decide +kernel
theorem dX9_isBefore_86 : decode cX9_isBefore 86 = .ok (.if_icmp .ge 7, 3) := by decide +kernel
theorem dX9_isBefore_89 : decode cX9_isBefore 89 = .ok (.iconst 1, 1) := by decide +kernel
theorem dX9_isBefore_90 : decode cX9_isBefore 90 = .ok (.goto 4, 3) := by decide +kernel
theorem dX9_isBefore_93 : decode cX9_isBefore 93 = .ok (.iconst 0, 1) := by decide +kernel
theorem dX9_isBefore_94 : decode cX9_isBefore 94 = .ok (.ireturn, 1) := by decide +kernel
theorem dX9_lineUp_0 : decode cX9_lineUp 0 = .ok (.aload_n 0, 1) := by decide +kernel
theorem dX9_lineUp_1 : decode cX9_lineUp 1 = .ok (.iconst 0, 1) := by decide +kernel
theorem dX9_lineUp_2 : decode cX9_lineUp 2 = .ok (.putfield 174, 3) := by decide +kernel
theorem dX9_lineUp_5 : decode cX9_lineUp 5 = .ok (.iconst 0, 1) := by decide +kernel
theorem dX9_lineUp_6 : decode cX9_lineUp 6 = .ok (.istore_n 2, 1) := by decide +kernel
theorem dX9_lineUp_7 : decode cX9_lineUp 7 = .ok (.iload_n 2, 1) := by decide +kernel
theorem dX9_lineUp_8 : decode cX9_lineUp 8 = .ok (.aload_n 0, 1) := by decide +kernel
theorem dX9_lineUp_9 : decode cX9_lineUp 9 = .ok (.getfield 160, 3) := by decide +kernel
theorem dX9_lineUp_12 : decode cX9_lineUp 12 = .ok (.if_icmp .ge 33, 3) := by decide +kernel
theorem dX9_lineUp_15 : decode cX9_lineUp 15 = .ok (.aload_n 0, 1) := by decide +kernel
theorem dX9_lineUp_16 : decode cX9_lineUp 16 = .ok (.dup, 1) := by decide +kernel
theorem dX9_lineUp_17 : decode cX9_lineUp 17 = .ok (.getfield 174, 3) := by decide +kernel
theorem dX9_lineUp_20 : decode cX9_lineUp 20 = .ok (.aload_n 0, 1) := by decide +kernel
theorem dX9_lineUp_21 : decode cX9_lineUp 21 = .ok (.getfield 65, 3) := by decide +kernel
theorem dX9_lineUp_24 : decode cX9_lineUp 24 = .ok (.iload_n 2, 1) := by decide +kernel
theorem dX9_lineUp_25 : decode cX9_lineUp 25 = .ok (.iaload, 1) := by decide +kernel
theorem dX9_lineUp_26 : decode cX9_lineUp 26 = .ok (.iload_n 1, 1) := by decide +kernel
theorem dX9_lineUp_27 : decode cX9_lineUp 27 = .ok (.if_icmp .ne 7, 3) := by decide +kernel
theorem dX9_lineUp_30 : decode cX9_lineUp 30 = .ok (.iconst 1, 1) := by decide +kernel
theorem dX9_lineUp_31 : decode cX9_lineUp 31 = .ok (.goto 4, 3) := by decide +kernel
theorem dX9_lineUp_34 : decode cX9_lineUp 34 = .ok (.iconst 0, 1) := by decide +kernel
theorem dX9_lineUp_35 : decode cX9_lineUp 35 = .ok (.iadd, 1) := by decide +kernel
theorem dX9_lineUp_36 : decode cX9_lineUp 36 = .ok (.putfield 174, 3) := by decide +kernel
theorem dX9_lineUp_39 : decode cX9_lineUp 39 = .ok (.iinc 2 1, 3) := by decide +kernel
theorem dX9_lineUp_42 : decode cX9_lineUp 42 = .ok (.goto (-35), 3) := by decide +kernel
theorem dX9_lineUp_45 : decode cX9_lineUp 45 = .ok (.iconst 0, 1) := by decide +kernel
theorem dX9_lineUp_46 : decode cX9_lineUp 46 = .ok (.istore_n 2, 1) := by decide +kernel
theorem dX9_lineUp_47 : decode cX9_lineUp 47 = .ok (.iload_n 2, 1) := by decide +kernel
theorem dX9_lineUp_48 : decode cX9_lineUp 48 = .ok (.aload_n 0, 1) := by decide +kernel
theorem dX9_lineUp_49 : decode cX9_lineUp 49 = .ok (.getfield 160, 3) := by decide +kernel
theorem dX9_lineUp_52 : decode cX9_lineUp 52 = .ok (.if_icmp .ge 75, 3) := by decide +kernel
theorem dX9_lineUp_55 : decode cX9_lineUp 55 = .ok (.aload_n 0, 1) := by decide +kernel
theorem dX9_lineUp_56 : decode cX9_lineUp 56 = .ok (.getfield 65, 3) := by decide +kernel
theorem dX9_lineUp_59 : decode cX9_lineUp 59 = .ok (.iload_n 2, 1) := by decide +kernel
theorem dX9_lineUp_60 : decode cX9_lineUp 60 = .ok (.iaload, 1) := by decide +kernel
theorem dX9_lineUp_61 : decode cX9_lineUp 61 = .ok (.iload_n 1, 1) := by decide +kernel
theorem dX9_lineUp_62 : decode cX9_lineUp 62 = .ok (.if_icmp .ne 59, 3) := by decide +kernel
theorem dX9_lineUp_65 : decode cX9_lineUp 65 = .ok (.iconst 0, 1) := by decide +kernel
theorem dX9_lineUp_66 : decode cX9_lineUp 66 = .ok (.istore_n 3, 1) := by decide +kernel
theorem dX9_lineUp_67 : decode cX9_lineUp 67 = .ok (.iconst 0, 1) := by decide +kernel
theorem dX9_lineUp_68 : decode cX9_lineUp 68 = .ok (.istore 4, 2) := by decide +kernel
theorem dX9_lineUp_70 : decode cX9_lineUp 70 = .ok (.iload 4, 2) := by decide +kernel
theorem dX9_lineUp_72 : decode cX9_lineUp 72 = .ok (.aload_n 0, 1) := by decide +kernel
theorem dX9_lineUp_73 : decode cX9_lineUp 73 = .ok (.getfield 160, 3) := by decide +kernel
theorem dX9_lineUp_76 : decode cX9_lineUp 76 = .ok (.if_icmp .ge 38, 3) := by decide +kernel
theorem dX9_lineUp_79 : decode cX9_lineUp 79 = .ok (.iload_n 3, 1) := by decide +kernel
theorem dX9_lineUp_80 : decode cX9_lineUp 80 = .ok (.aload_n 0, 1) := by decide +kernel
theorem dX9_lineUp_81 : decode cX9_lineUp 81 = .ok (.getfield 65, 3) := by decide +kernel
theorem dX9_lineUp_84 : decode cX9_lineUp 84 = .ok (.iload 4, 2) := by decide +kernel
theorem dX9_lineUp_86 : decode cX9_lineUp 86 = .ok (.iaload, 1) := by decide +kernel
theorem dX9_lineUp_87 : decode cX9_lineUp 87 = .ok (.iload_n 1, 1) := by decide +kernel
theorem dX9_lineUp_88 : decode cX9_lineUp 88 = .ok (.if_icmp .ne 17, 3) := by decide +kernel
theorem dX9_lineUp_91 : decode cX9_lineUp 91 = .ok (.aload_n 0, 1) := by decide +kernel
theorem dX9_lineUp_92 : decode cX9_lineUp 92 = .ok (.iload 4, 2) := by decide +kernel
theorem dX9_lineUp_94 : decode cX9_lineUp 94 = .ok (.iload_n 2, 1) := by decide +kernel
theorem dX9_lineUp_95 : decode cX9_lineUp 95 = .ok (.invokevirtual 177, 3) := by decide +kernel
theorem dX9_lineUp_98 : decode cX9_lineUp 98 = .ok (.ifCond .eq 7, 3) := by decide +kernel
theorem dX9_lineUp_101 : decode cX9_lineUp 101 = .ok (.iconst 1, 1) := by decide +kernel
theorem dX9_lineUp_102 : decode cX9_lineUp 102 = .ok (.goto 4, 3) := by decide +kernel
theorem dX9_lineUp_105 : decode cX9_lineUp 105 = .ok (.iconst 0, 1) := by decide +kernel
theorem dX9_lineUp_106 : decode cX9_lineUp 106 = .ok (.iadd, 1) := by decide +kernel
theorem dX9_lineUp_107 : decode cX9_lineUp 107 = .ok (.istore_n 3, 1) := by decide +kernel
theorem dX9_lineUp_108 : decode cX9_lineUp 108 = .ok (.iinc 4 1, 3) := by decide +kernel
theorem dX9_lineUp_111 : decode cX9_lineUp 111 = .ok (.goto (-41), 3) := by decide +kernel
theorem dX9_lineUp_114 : decode cX9_lineUp 114 = .ok (.aload_n 0, 1) := by decide +kernel
theorem dX9_lineUp_115 : decode cX9_lineUp 115 = .ok (.getfield 123, 3) := by decide +kernel
theorem dX9_lineUp_118 : decode cX9_lineUp 118 = .ok (.iload_n 3, 1) := by decide +kernel
theorem dX9_lineUp_119 : decode cX9_lineUp 119 = .ok (.iload_n 2, 1) := by decide +kernel
theorem dX9_lineUp_120 : decode cX9_lineUp 120 = .ok (.iastore, 1) := by decide +kernel
theorem dX9_lineUp_121 : decode cX9_lineUp 121 = .ok (.iinc 2 1, 3) := by decide +kernel
theorem dX9_lineUp_124 : decode cX9_lineUp 124 = .ok (.goto (-77), 3) := by decide +kernel
theorem dX9_lineUp_127 : decode cX9_lineUp 127 = .ok (.return_, 1) := by decide +kernel
theorem dX9_valueIn_0 : decode cX9_valueIn 0 = .ok (.iload_n 3, 1) := by decide +kernel
theorem dX9_valueIn_1 : decode cX9_valueIn 1 = .ok (.invokestatic 150, 3) := by decide +kernel
theorem dX9_valueIn_4 : decode cX9_valueIn 4 = .ok (.ifCond .eq 15, 3) := by decide +kernel
theorem dX9_valueIn_7 : decode cX9_valueIn 7 = .ok (.aload_n 1, 1) := by decide +kernel
theorem dX9_valueIn_8 : decode cX9_valueIn 8 = .ok (.iconst 4, 1) := by decide +kernel
theorem dX9_valueIn_9 : decode cX9_valueIn 9 = .ok (.iload_n 2, 1) := by decide +kernel
theorem dX9_valueIn_10 : decode cX9_valueIn 10 = .ok (.imul, 1) := by decide +kernel
theorem dX9_valueIn_11 : decode cX9_valueIn 11 = .ok (.iconst 1, 1) := by decide +kernel
theorem dX9_valueIn_12 : decode cX9_valueIn 12 = .ok (.isub, 1) := by decide +kernel
theorem dX9_valueIn_13 : decode cX9_valueIn 13 = .ok (.iload_n 3, 1) := by decide +kernel
theorem dX9_valueIn_14 : decode cX9_valueIn 14 = .ok (.isub, 1) := by decide +kernel
theorem dX9_valueIn_15 : decode cX9_valueIn 15 = .ok (.iaload, 1) := by decide +kernel
theorem dX9_valueIn_16 : decode cX9_valueIn 16 = .ok (.goto 4, 3) := by decide +kernel
theorem dX9_valueIn_19 : decode cX9_valueIn 19 = .ok (.iload_n 3, 1) := by decide +kernel
theorem dX9_valueIn_20 : decode cX9_valueIn 20 = .ok (.ireturn, 1) := by decide +kernel
theorem dX9_fits_0 : decode cX9_fits 0 = .ok (.aload_n 0, 1) := by decide +kernel
theorem dX9_fits_1 : decode cX9_fits 1 = .ok (.aload_n 0, 1) := by decide +kernel
theorem dX9_fits_2 : decode cX9_fits 2 = .ok (.getfield 120, 3) := by decide +kernel
theorem dX9_fits_5 : decode cX9_fits 5 = .ok (.aload_n 0, 1) := by decide +kernel
theorem dX9_fits_6 : decode cX9_fits 6 = .ok (.getfield 180, 3) := by decide +kernel
theorem dX9_fits_9 : decode cX9_fits 9 = .ok (.iload_n 1, 1) := by decide +kernel
theorem dX9_fits_10 : decode cX9_fits 10 = .ok (.invokevirtual 183, 3) := by decide +kernel
theorem dX9_fits_13 : decode cX9_fits 13 = .ok (.istore_n 3, 1) := by decide +kernel
theorem dX9_fits_14 : decode cX9_fits 14 = .ok (.iload_n 3, 1) := by decide +kernel
theorem dX9_fits_15 : decode cX9_fits 15 = .ok (.iconst (-1), 1) := by decide +kernel
theorem dX9_fits_16 : decode cX9_fits 16 = .ok (.if_icmp .ne 28, 3) := by decide +kernel
theorem dX9_fits_19 : decode cX9_fits 19 = .ok (.iload_n 1, 1) := by decide +kernel
theorem dX9_fits_20 : decode cX9_fits 20 = .ok (.invokestatic 150, 3) := by decide +kernel
theorem dX9_fits_23 : decode cX9_fits 23 = .ok (.ifCond .eq 21, 3) := by decide +kernel
theorem dX9_fits_26 : decode cX9_fits 26 = .ok (.aload_n 0, 1) := by decide +kernel
theorem dX9_fits_27 : decode cX9_fits 27 = .ok (.getfield 120, 3) := by decide +kernel
theorem dX9_fits_30 : decode cX9_fits 30 = .ok (.iconst 4, 1) := by decide +kernel
theorem dX9_fits_31 : decode cX9_fits 31 = .ok (.aload_n 0, 1) := by decide +kernel
theorem dX9_fits_32 : decode cX9_fits 32 = .ok (.getfield 180, 3) := by decide +kernel
theorem dX9_fits_35 : decode cX9_fits 35 = .ok (.imul, 1) := by decide +kernel
theorem dX9_fits_36 : decode cX9_fits 36 = .ok (.iconst 1, 1) := by decide +kernel
theorem dX9_fits_37 : decode cX9_fits 37 = .ok (.isub, 1) := by decide +kernel
theorem dX9_fits_38 : decode cX9_fits 38 = .ok (.iload_n 1, 1) := by decide +kernel
theorem dX9_fits_39 : decode cX9_fits 39 = .ok (.isub, 1) := by decide +kernel
theorem dX9_fits_40 : decode cX9_fits 40 = .ok (.iload_n 2, 1) := by decide +kernel
theorem dX9_fits_41 : decode cX9_fits 41 = .ok (.iastore, 1) := by decide +kernel
theorem dX9_fits_42 : decode cX9_fits 42 = .ok (.iconst 1, 1) := by decide +kernel
theorem dX9_fits_43 : decode cX9_fits 43 = .ok (.ireturn, 1) := by decide +kernel
theorem dX9_fits_44 : decode cX9_fits 44 = .ok (.iload_n 3, 1) := by decide +kernel
theorem dX9_fits_45 : decode cX9_fits 45 = .ok (.iload_n 2, 1) := by decide +kernel
theorem dX9_fits_46 : decode cX9_fits 46 = .ok (.if_icmp .ne 7, 3) := by decide +kernel
theorem dX9_fits_49 : decode cX9_fits 49 = .ok (.iconst 1, 1) := by decide +kernel
theorem dX9_fits_50 : decode cX9_fits 50 = .ok (.goto 4, 3) := by decide +kernel
theorem dX9_fits_53 : decode cX9_fits 53 = .ok (.iconst 0, 1) := by decide +kernel
theorem dX9_fits_54 : decode cX9_fits 54 = .ok (.ireturn, 1) := by decide +kernel
theorem dX9_solve_0 : decode cX9_solve 0 = .ok (.aload_n 0, 1) := by decide +kernel
theorem dX9_solve_1 : decode cX9_solve 1 = .ok (.aload_n 0, 1) := by decide +kernel
theorem dX9_solve_2 : decode cX9_solve 2 = .ok (.getfield 13, 3) := by decide +kernel
theorem dX9_solve_5 : decode cX9_solve 5 = .ok (.iload_n 1, 1) := by decide +kernel
theorem dX9_solve_6 : decode cX9_solve 6 = .ok (.iaload, 1) := by decide +kernel
theorem dX9_solve_7 : decode cX9_solve 7 = .ok (.invokevirtual 187, 3) := by decide +kernel
theorem dX9_solve_10 : decode cX9_solve 10 = .ok (.iconst 0, 1) := by decide +kernel
theorem dX9_solve_11 : decode cX9_solve 11 = .ok (.istore_n 2, 1) := by decide +kernel
theorem dX9_solve_12 : decode cX9_solve 12 = .ok (.aload_n 0, 1) := by decide +kernel
theorem dX9_solve_13 : decode cX9_solve 13 = .ok (.iconst 1, 1) := by decide +kernel
theorem dX9_solve_14 : decode cX9_solve 14 = .ok (.putfield 190, 3) := by decide +kernel
theorem dX9_solve_17 : decode cX9_solve 17 = .ok (.iconst 0, 1) := by decide +kernel
theorem dX9_solve_18 : decode cX9_solve 18 = .ok (.istore_n 3, 1) := by decide +kernel
theorem dX9_solve_19 : decode cX9_solve 19 = .ok (.iload_n 3, 1) := by decide +kernel
theorem dX9_solve_20 : decode cX9_solve 20 = .ok (.iconst 4, 1) := by decide +kernel
theorem dX9_solve_21 : decode cX9_solve 21 = .ok (.if_icmp .ge 16, 3) := by decide +kernel
theorem dX9_solve_24 : decode cX9_solve 24 = .ok (.aload_n 0, 1) := by decide +kernel
theorem dX9_solve_25 : decode cX9_solve 25 = .ok (.getfield 117, 3) := by decide +kernel
theorem dX9_solve_28 : decode cX9_solve 28 = .ok (.iload_n 3, 1) := by decide +kernel
theorem dX9_solve_29 : decode cX9_solve 29 = .ok (.iconst (-1), 1) := by decide +kernel
theorem dX9_solve_30 : decode cX9_solve 30 = .ok (.iastore, 1) := by decide +kernel
theorem dX9_solve_31 : decode cX9_solve 31 = .ok (.iinc 3 1, 3) := by decide +kernel
theorem dX9_solve_34 : decode cX9_solve 34 = .ok (.goto (-15), 3) := by decide +kernel
theorem dX9_solve_37 : decode cX9_solve 37 = .ok (.iconst 4, 1) := by decide +kernel
theorem dX9_solve_38 : decode cX9_solve 38 = .ok (.iload_n 1, 1) := by decide +kernel
theorem dX9_solve_39 : decode cX9_solve 39 = .ok (.imul, 1) := by decide +kernel
theorem dX9_solve_40 : decode cX9_solve 40 = .ok (.istore_n 3, 1) := by decide +kernel
theorem dX9_solve_41 : decode cX9_solve 41 = .ok (.iload_n 3, 1) := by decide +kernel
theorem dX9_solve_42 : decode cX9_solve 42 = .ok (.iconst 4, 1) := by decide +kernel
theorem dX9_solve_43 : decode cX9_solve 43 = .ok (.iload_n 1, 1) := by decide +kernel
theorem dX9_solve_44 : decode cX9_solve 44 = .ok (.imul, 1) := by decide +kernel
theorem dX9_solve_45 : decode cX9_solve 45 = .ok (.aload_n 0, 1) := by decide +kernel
theorem dX9_solve_46 : decode cX9_solve 46 = .ok (.getfield 38, 3) := by decide +kernel
theorem dX9_solve_49 : decode cX9_solve 49 = .ok (.iload_n 1, 1) := by decide +kernel
theorem dX9_solve_50 : decode cX9_solve 50 = .ok (.iaload, 1) := by decide +kernel
theorem dX9_solve_51 : decode cX9_solve 51 = .ok (.iadd, 1) := by decide +kernel
theorem dX9_solve_52 : decode cX9_solve 52 = .ok (.if_icmp .ge 244, 3) := by decide +kernel
theorem dX9_solve_55 : decode cX9_solve 55 = .ok (.aload_n 0, 1) := by decide +kernel
theorem dX9_solve_56 : decode cX9_solve 56 = .ok (.iconst 0, 1) := by decide +kernel
theorem dX9_solve_57 : decode cX9_solve 57 = .ok (.putfield 180, 3) := by decide +kernel
theorem dX9_solve_60 : decode cX9_solve 60 = .ok (.iconst 0, 1) := by decide +kernel
theorem dX9_solve_61 : decode cX9_solve 61 = .ok (.istore 4, 2) := by decide +kernel
theorem dX9_solve_63 : decode cX9_solve 63 = .ok (.iload 4, 2) := by decide +kernel
theorem dX9_solve_65 : decode cX9_solve 65 = .ok (.aload_n 0, 1) := by decide +kernel
theorem dX9_solve_66 : decode cX9_solve 66 = .ok (.getfield 190, 3) := by decide +kernel
theorem dX9_solve_69 : decode cX9_solve 69 = .ok (.if_icmp .ge 179, 3) := by decide +kernel
theorem dX9_solve_72 : decode cX9_solve 72 = .ok (.iload_n 2, 1) := by decide +kernel
theorem dX9_solve_73 : decode cX9_solve 73 = .ok (.aload_n 0, 1) := by decide +kernel
theorem dX9_solve_74 : decode cX9_solve 74 = .ok (.getfield 174, 3) := by decide +kernel
theorem dX9_solve_77 : decode cX9_solve 77 = .ok (.iadd, 1) := by decide +kernel
theorem dX9_solve_78 : decode cX9_solve 78 = .ok (.istore_n 2, 1) := by decide +kernel
theorem dX9_solve_79 : decode cX9_solve 79 = .ok (.iload_n 2, 1) := by decide +kernel
theorem dX9_solve_80 : decode cX9_solve 80 = .ok (.sipush 5000, 3) := by decide +kernel
theorem dX9_solve_83 : decode cX9_solve 83 = .ok (.if_icmp .le 5, 3) := by decide +kernel
theorem dX9_solve_86 : decode cX9_solve 86 = .ok (.iconst 5, 1) := by decide +kernel
theorem dX9_solve_87 : decode cX9_solve 87 = .ok (.ireturn, 1) := by decide +kernel
theorem dX9_solve_88 : decode cX9_solve 88 = .ok (.iconst 0, 1) := by decide +kernel
theorem dX9_solve_89 : decode cX9_solve 89 = .ok (.istore 5, 2) := by decide +kernel
theorem dX9_solve_91 : decode cX9_solve 91 = .ok (.iload 5, 2) := by decide +kernel
theorem dX9_solve_93 : decode cX9_solve 93 = .ok (.aload_n 0, 1) := by decide +kernel
theorem dX9_solve_94 : decode cX9_solve 94 = .ok (.getfield 174, 3) := by decide +kernel
theorem dX9_solve_97 : decode cX9_solve 97 = .ok (.if_icmp .ge 145, 3) := by decide +kernel
theorem dX9_solve_100 : decode cX9_solve 100 = .ok (.aload_n 0, 1) := by decide +kernel
theorem dX9_solve_101 : decode cX9_solve 101 = .ok (.getfield 123, 3) := by decide +kernel
theorem dX9_solve_104 : decode cX9_solve 104 = .ok (.iload 5, 2) := by decide +kernel
theorem dX9_solve_106 : decode cX9_solve 106 = .ok (.iaload, 1) := by decide +kernel
theorem dX9_solve_107 : decode cX9_solve 107 = .ok (.istore 6, 2) := by decide +kernel
theorem dX9_solve_109 : decode cX9_solve 109 = .ok (.iconst 0, 1) := by decide +kernel
theorem dX9_solve_110 : decode cX9_solve 110 = .ok (.istore 7, 2) := by decide +kernel
theorem dX9_solve_112 : decode cX9_solve 112 = .ok (.iload 7, 2) := by decide +kernel
theorem dX9_solve_114 : decode cX9_solve 114 = .ok (.iconst 4, 1) := by decide +kernel
theorem dX9_solve_115 : decode cX9_solve 115 = .ok (.if_icmp .ge 35, 3) := by decide +kernel
theorem dX9_solve_118 : decode cX9_solve 118 = .ok (.aload_n 0, 1) := by decide +kernel
theorem dX9_solve_119 : decode cX9_solve 119 = .ok (.getfield 120, 3) := by decide +kernel
theorem dX9_solve_122 : decode cX9_solve 122 = .ok (.iconst 4, 1) := by decide +kernel
theorem dX9_solve_123 : decode cX9_solve 123 = .ok (.aload_n 0, 1) := by decide +kernel
theorem dX9_solve_124 : decode cX9_solve 124 = .ok (.getfield 180, 3) := by decide +kernel
theorem dX9_solve_127 : decode cX9_solve 127 = .ok (.imul, 1) := by decide +kernel
theorem dX9_solve_128 : decode cX9_solve 128 = .ok (.iload 7, 2) := by decide +kernel
theorem dX9_solve_130 : decode cX9_solve 130 = .ok (.iadd, 1) := by decide +kernel
theorem dX9_solve_131 : decode cX9_solve 131 = .ok (.aload_n 0, 1) := by decide +kernel
theorem dX9_solve_132 : decode cX9_solve 132 = .ok (.getfield 117, 3) := by decide +kernel
theorem dX9_solve_135 : decode cX9_solve 135 = .ok (.iconst 4, 1) := by decide +kernel
theorem dX9_solve_136 : decode cX9_solve 136 = .ok (.iload 4, 2) := by decide +kernel
theorem dX9_solve_138 : decode cX9_solve 138 = .ok (.imul, 1) := by decide +kernel
theorem dX9_solve_139 : decode cX9_solve 139 = .ok (.iload 7, 2) := by decide +kernel
theorem dX9_solve_141 : decode cX9_solve 141 = .ok (.iadd, 1) := by decide +kernel
theorem dX9_solve_142 : decode cX9_solve 142 = .ok (.iaload, 1) := by decide +kernel
theorem dX9_solve_143 : decode cX9_solve 143 = .ok (.iastore, 1) := by decide +kernel
theorem dX9_solve_144 : decode cX9_solve 144 = .ok (.iinc 7 1, 3) := by decide +kernel
theorem dX9_solve_147 : decode cX9_solve 147 = .ok (.goto (-35), 3) := by decide +kernel
theorem dX9_solve_150 : decode cX9_solve 150 = .ok (.aload_n 0, 1) := by decide +kernel
theorem dX9_solve_151 : decode cX9_solve 151 = .ok (.aload_n 0, 1) := by decide +kernel
theorem dX9_solve_152 : decode cX9_solve 152 = .ok (.getfield 41, 3) := by decide +kernel
theorem dX9_solve_155 : decode cX9_solve 155 = .ok (.iload_n 3, 1) := by decide +kernel
theorem dX9_solve_156 : decode cX9_solve 156 = .ok (.iaload, 1) := by decide +kernel
theorem dX9_solve_157 : decode cX9_solve 157 = .ok (.aload_n 0, 1) := by decide +kernel
theorem dX9_solve_158 : decode cX9_solve 158 = .ok (.getfield 68, 3) := by decide +kernel
theorem dX9_solve_161 : decode cX9_solve 161 = .ok (.iload 6, 2) := by decide +kernel
theorem dX9_solve_163 : decode cX9_solve 163 = .ok (.iaload, 1) := by decide +kernel
theorem dX9_solve_164 : decode cX9_solve 164 = .ok (.invokevirtual 193, 3) := by decide +kernel
theorem dX9_solve_167 : decode cX9_solve 167 = .ok (.ifCond .eq 47, 3) := by decide +kernel
theorem dX9_solve_170 : decode cX9_solve 170 = .ok (.aload_n 0, 1) := by decide +kernel
theorem dX9_solve_171 : decode cX9_solve 171 = .ok (.aload_n 0, 1) := by decide +kernel
theorem dX9_solve_172 : decode cX9_solve 172 = .ok (.getfield 44, 3) := by decide +kernel
theorem dX9_solve_175 : decode cX9_solve 175 = .ok (.iload_n 3, 1) := by decide +kernel
theorem dX9_solve_176 : decode cX9_solve 176 = .ok (.iaload, 1) := by decide +kernel
theorem dX9_solve_177 : decode cX9_solve 177 = .ok (.aload_n 0, 1) := by decide +kernel
theorem dX9_solve_178 : decode cX9_solve 178 = .ok (.getfield 71, 3) := by decide +kernel
theorem dX9_solve_181 : decode cX9_solve 181 = .ok (.iload 6, 2) := by decide +kernel
theorem dX9_solve_183 : decode cX9_solve 183 = .ok (.iaload, 1) := by decide +kernel
theorem dX9_solve_184 : decode cX9_solve 184 = .ok (.invokevirtual 193, 3) := by decide +kernel
theorem dX9_solve_187 : decode cX9_solve 187 = .ok (.ifCond .eq 27, 3) := by decide +kernel
theorem dX9_solve_190 : decode cX9_solve 190 = .ok (.aload_n 0, 1) := by decide +kernel
theorem dX9_solve_191 : decode cX9_solve 191 = .ok (.aload_n 0, 1) := by decide +kernel
theorem dX9_solve_192 : decode cX9_solve 192 = .ok (.getfield 47, 3) := by decide +kernel
theorem dX9_solve_195 : decode cX9_solve 195 = .ok (.iload_n 3, 1) := by decide +kernel
theorem dX9_solve_196 : decode cX9_solve 196 = .ok (.iaload, 1) := by decide +kernel
theorem dX9_solve_197 : decode cX9_solve 197 = .ok (.aload_n 0, 1) := by decide +kernel
theorem dX9_solve_198 : decode cX9_solve 198 = .ok (.getfield 74, 3) := by decide +kernel
theorem dX9_solve_201 : decode cX9_solve 201 = .ok (.iload 6, 2) := by decide +kernel
theorem dX9_solve_203 : decode cX9_solve 203 = .ok (.iaload, 1) := by decide +kernel
theorem dX9_solve_204 : decode cX9_solve 204 = .ok (.invokevirtual 193, 3) := by decide +kernel
theorem dX9_solve_207 : decode cX9_solve 207 = .ok (.ifCond .eq 7, 3) := by decide +kernel
theorem dX9_solve_210 : decode cX9_solve 210 = .ok (.iconst 1, 1) := by decide +kernel
theorem dX9_solve_211 : decode cX9_solve 211 = .ok (.goto 4, 3) := by decide +kernel
theorem dX9_solve_214 : decode cX9_solve 214 = .ok (.iconst 0, 1) := by decide +kernel
theorem dX9_solve_215 : decode cX9_solve 215 = .ok (.istore 7, 2) := by decide +kernel
theorem dX9_solve_217 : decode cX9_solve 217 = .ok (.aload_n 0, 1) := by decide +kernel
theorem dX9_solve_218 : decode cX9_solve 218 = .ok (.dup, 1) := by decide +kernel
theorem dX9_solve_219 : decode cX9_solve 219 = .ok (.getfield 180, 3) := by decide +kernel
theorem dX9_solve_222 : decode cX9_solve 222 = .ok (.iload 7, 2) := by decide +kernel
theorem dX9_solve_224 : decode cX9_solve 224 = .ok (.ifCond .eq 7, 3) := by decide +kernel
theorem dX9_solve_227 : decode cX9_solve 227 = .ok (.iconst 1, 1) := by decide +kernel
theorem dX9_solve_228 : decode cX9_solve 228 = .ok (.goto 4, 3) := by decide +kernel
theorem dX9_solve_231 : decode cX9_solve 231 = .ok (.iconst 0, 1) := by decide +kernel
theorem dX9_solve_232 : decode cX9_solve 232 = .ok (.iadd, 1) := by decide +kernel
theorem dX9_solve_233 : decode cX9_solve 233 = .ok (.putfield 180, 3) := by decide +kernel
theorem dX9_solve_236 : decode cX9_solve 236 = .ok (.iinc 5 1, 3) := by decide +kernel
theorem dX9_solve_239 : decode cX9_solve 239 = .ok (.goto (-148), 3) := by decide +kernel
theorem dX9_solve_242 : decode cX9_solve 242 = .ok (.iinc 4 1, 3) := by decide +kernel
theorem dX9_solve_245 : decode cX9_solve 245 = .ok (.goto (-182), 3) := by decide +kernel
theorem dX9_solve_248 : decode cX9_solve 248 = .ok (.aload_n 0, 1) := by decide +kernel
theorem dX9_solve_249 : decode cX9_solve 249 = .ok (.aload_n 0, 1) := by decide +kernel
theorem dX9_solve_250 : decode cX9_solve 250 = .ok (.getfield 180, 3) := by decide +kernel
theorem dX9_solve_253 : decode cX9_solve 253 = .ok (.putfield 190, 3) := by decide +kernel
theorem dX9_solve_256 : decode cX9_solve 256 = .ok (.iconst 0, 1) := by decide +kernel
theorem dX9_solve_257 : decode cX9_solve 257 = .ok (.istore 4, 2) := by decide +kernel
theorem dX9_solve_259 : decode cX9_solve 259 = .ok (.iload 4, 2) := by decide +kernel
theorem dX9_solve_261 : decode cX9_solve 261 = .ok (.iconst 4, 1) := by decide +kernel
theorem dX9_solve_262 : decode cX9_solve 262 = .ok (.aload_n 0, 1) := by decide +kernel
theorem dX9_solve_263 : decode cX9_solve 263 = .ok (.getfield 190, 3) := by decide +kernel
theorem dX9_solve_266 : decode cX9_solve 266 = .ok (.imul, 1) := by decide +kernel
theorem dX9_solve_267 : decode cX9_solve 267 = .ok (.if_icmp .ge 23, 3) := by decide +kernel
theorem dX9_solve_270 : decode cX9_solve 270 = .ok (.aload_n 0, 1) := by decide +kernel
theorem dX9_solve_271 : decode cX9_solve 271 = .ok (.getfield 117, 3) := by decide +kernel
theorem dX9_solve_274 : decode cX9_solve 274 = .ok (.iload 4, 2) := by decide +kernel
theorem dX9_solve_276 : decode cX9_solve 276 = .ok (.aload_n 0, 1) := by decide +kernel
theorem dX9_solve_277 : decode cX9_solve 277 = .ok (.getfield 120, 3) := by decide +kernel
theorem dX9_solve_280 : decode cX9_solve 280 = .ok (.iload 4, 2) := by decide +kernel
theorem dX9_solve_282 : decode cX9_solve 282 = .ok (.iaload, 1) := by decide +kernel
theorem dX9_solve_283 : decode cX9_solve 283 = .ok (.iastore, 1) := by decide +kernel
theorem dX9_solve_284 : decode cX9_solve 284 = .ok (.iinc 4 1, 3) := by decide +kernel
theorem dX9_solve_287 : decode cX9_solve 287 = .ok (.goto (-28), 3) := by decide +kernel
theorem dX9_solve_290 : decode cX9_solve 290 = .ok (.iinc 3 1, 3) := by decide +kernel
theorem dX9_solve_293 : decode cX9_solve 293 = .ok (.goto (-252), 3) := by decide +kernel
theorem dX9_solve_296 : decode cX9_solve 296 = .ok (.aload_n 0, 1) := by decide +kernel
theorem dX9_solve_297 : decode cX9_solve 297 = .ok (.dup, 1) := by decide +kernel
theorem dX9_solve_298 : decode cX9_solve 298 = .ok (.getfield 196, 3) := by decide +kernel
theorem dX9_solve_301 : decode cX9_solve 301 = .ok (.iload_n 2, 1) := by decide +kernel
theorem dX9_solve_302 : decode cX9_solve 302 = .ok (.iadd, 1) := by decide +kernel
theorem dX9_solve_303 : decode cX9_solve 303 = .ok (.putfield 196, 3) := by decide +kernel
theorem dX9_solve_306 : decode cX9_solve 306 = .ok (.aload_n 0, 1) := by decide +kernel
theorem dX9_solve_307 : decode cX9_solve 307 = .ok (.getfield 190, 3) := by decide +kernel
theorem dX9_solve_310 : decode cX9_solve 310 = .ok (.bipush 100, 2) := by decide +kernel
theorem dX9_solve_312 : decode cX9_solve 312 = .ok (.if_icmp .le 7, 3) := by decide +kernel
theorem dX9_solve_315 : decode cX9_solve 315 = .ok (.iconst 5, 1) := by decide +kernel
theorem dX9_solve_316 : decode cX9_solve 316 = .ok (.goto 4, 3) := by decide +kernel
theorem dX9_solve_319 : decode cX9_solve 319 = .ok (.iconst 0, 1) := by decide +kernel
theorem dX9_solve_320 : decode cX9_solve 320 = .ok (.ireturn, 1) := by decide +kernel
theorem dX9_isLeftOut_0 : decode cX9_isLeftOut 0 = .ok (.aload_n 0, 1) := by decide +kernel
theorem dX9_isLeftOut_1 : decode cX9_isLeftOut 1 = .ok (.aload_n 0, 1) := by decide +kernel
theorem dX9_isLeftOut_2 : decode cX9_isLeftOut 2 = .ok (.getfield 117, 3) := by decide +kernel
theorem dX9_isLeftOut_5 : decode cX9_isLeftOut 5 = .ok (.iload_n 2, 1) := by decide +kernel
theorem dX9_isLeftOut_6 : decode cX9_isLeftOut 6 = .ok (.aload_n 0, 1) := by decide +kernel
theorem dX9_isLeftOut_7 : decode cX9_isLeftOut 7 = .ok (.getfield 26, 3) := by decide +kernel
theorem dX9_isLeftOut_10 : decode cX9_isLeftOut 10 = .ok (.iload_n 1, 1) := by decide +kernel
theorem dX9_isLeftOut_11 : decode cX9_isLeftOut 11 = .ok (.iaload, 1) := by decide +kernel
theorem dX9_isLeftOut_12 : decode cX9_isLeftOut 12 = .ok (.invokevirtual 183, 3) := by decide +kernel
theorem dX9_isLeftOut_15 : decode cX9_isLeftOut 15 = .ok (.istore_n 3, 1) := by decide +kernel
theorem dX9_isLeftOut_16 : decode cX9_isLeftOut 16 = .ok (.aload_n 0, 1) := by decide +kernel
theorem dX9_isLeftOut_17 : decode cX9_isLeftOut 17 = .ok (.aload_n 0, 1) := by decide +kernel
theorem dX9_isLeftOut_18 : decode cX9_isLeftOut 18 = .ok (.getfield 117, 3) := by decide +kernel
theorem dX9_isLeftOut_21 : decode cX9_isLeftOut 21 = .ok (.iload_n 2, 1) := by decide +kernel
theorem dX9_isLeftOut_22 : decode cX9_isLeftOut 22 = .ok (.aload_n 0, 1) := by decide +kernel
theorem dX9_isLeftOut_23 : decode cX9_isLeftOut 23 = .ok (.getfield 29, 3) := by decide +kernel
theorem dX9_isLeftOut_26 : decode cX9_isLeftOut 26 = .ok (.iload_n 1, 1) := by decide +kernel
theorem dX9_isLeftOut_27 : decode cX9_isLeftOut 27 = .ok (.iaload, 1) := by decide +kernel
theorem dX9_isLeftOut_28 : decode cX9_isLeftOut 28 = .ok (.invokevirtual 183, 3) := by decide +kernel
theorem dX9_isLeftOut_31 : decode cX9_isLeftOut 31 = .ok (.istore 4, 2) := by decide +kernel
theorem dX9_isLeftOut_33 : decode cX9_isLeftOut 33 = .ok (.aload_n 0, 1) := by decide +kernel
theorem dX9_isLeftOut_34 : decode cX9_isLeftOut 34 = .ok (.aload_n 0, 1) := by decide +kernel
theorem dX9_isLeftOut_35 : decode cX9_isLeftOut 35 = .ok (.getfield 117, 3) := by decide +kernel
theorem dX9_isLeftOut_38 : decode cX9_isLeftOut 38 = .ok (.iload_n 2, 1) := by decide +kernel
theorem dX9_isLeftOut_39 : decode cX9_isLeftOut 39 = .ok (.aload_n 0, 1) := by decide +kernel
theorem dX9_isLeftOut_40 : decode cX9_isLeftOut 40 = .ok (.getfield 32, 3) := by decide +kernel
theorem dX9_isLeftOut_43 : decode cX9_isLeftOut 43 = .ok (.iload_n 1, 1) := by decide +kernel
theorem dX9_isLeftOut_44 : decode cX9_isLeftOut 44 = .ok (.iaload, 1) := by decide +kernel
theorem dX9_isLeftOut_45 : decode cX9_isLeftOut 45 = .ok (.invokevirtual 183, 3) := by decide +kernel
theorem dX9_isLeftOut_48 : decode cX9_isLeftOut 48 = .ok (.istore 5, 2) := by decide +kernel
theorem dX9_isLeftOut_50 : decode cX9_isLeftOut 50 = .ok (.iload_n 3, 1) := by decide +kernel
theorem dX9_isLeftOut_51 : decode cX9_isLeftOut 51 = .ok (.iconst (-1), 1) := by decide +kernel
theorem dX9_isLeftOut_52 : decode cX9_isLeftOut 52 = .ok (.if_icmp .eq 22, 3) := by decide +kernel
theorem dX9_isLeftOut_55 : decode cX9_isLeftOut 55 = .ok (.iload 4, 2) := by decide +kernel
theorem dX9_isLeftOut_57 : decode cX9_isLeftOut 57 = .ok (.iconst (-1), 1) := by decide +kernel
theorem dX9_isLeftOut_58 : decode cX9_isLeftOut 58 = .ok (.if_icmp .eq 16, 3) := by decide +kernel
theorem dX9_isLeftOut_61 : decode cX9_isLeftOut 61 = .ok (.iload 5, 2) := by decide +kernel
theorem dX9_isLeftOut_63 : decode cX9_isLeftOut 63 = .ok (.iconst (-1), 1) := by decide +kernel
theorem dX9_isLeftOut_64 : decode cX9_isLeftOut 64 = .ok (.if_icmp .eq 10, 3) := by decide +kernel
theorem dX9_isLeftOut_67 : decode cX9_isLeftOut 67 = .ok (.iload 4, 2) := by decide +kernel
theorem dX9_isLeftOut_69 : decode cX9_isLeftOut 69 = .ok (.bipush 99, 2) := by decide +kernel
theorem dX9_isLeftOut_71 : decode cX9_isLeftOut 71 = .ok (.if_icmp .le 7, 3) := by decide +kernel
theorem dX9_isLeftOut_74 : decode cX9_isLeftOut 74 = .ok (.iconst 1, 1) := by decide +kernel
theorem dX9_isLeftOut_75 : decode cX9_isLeftOut 75 = .ok (.goto 4, 3) := by decide +kernel
theorem dX9_isLeftOut_78 : decode cX9_isLeftOut 78 = .ok (.iconst 0, 1) := by decide +kernel
theorem dX9_isLeftOut_79 : decode cX9_isLeftOut 79 = .ok (.ireturn, 1) := by decide +kernel
theorem dX9_comes_0 : decode cX9_comes 0 = .ok (.iload_n 1, 1) := by decide +kernel
theorem dX9_comes_1 : decode cX9_comes 1 = .ok (.invokestatic 153, 3) := by decide +kernel
theorem dX9_comes_4 : decode cX9_comes 4 = .ok (.ifCond .ne 14, 3) := by decide +kernel
theorem dX9_comes_7 : decode cX9_comes 7 = .ok (.aload_n 0, 1) := by decide +kernel
theorem dX9_comes_8 : decode cX9_comes 8 = .ok (.aload_n 0, 1) := by decide +kernel
theorem dX9_comes_9 : decode cX9_comes 9 = .ok (.getfield 117, 3) := by decide +kernel
theorem dX9_comes_12 : decode cX9_comes 12 = .ok (.iload_n 2, 1) := by decide +kernel
theorem dX9_comes_13 : decode cX9_comes 13 = .ok (.iload_n 1, 1) := by decide +kernel
theorem dX9_comes_14 : decode cX9_comes 14 = .ok (.invokevirtual 183, 3) := by decide +kernel
theorem dX9_comes_17 : decode cX9_comes 17 = .ok (.ireturn, 1) := by decide +kernel
theorem dX9_comes_18 : decode cX9_comes 18 = .ok (.bipush (-11), 2) := by decide +kernel
theorem dX9_comes_20 : decode cX9_comes 20 = .ok (.iload_n 1, 1) := by decide +kernel
theorem dX9_comes_21 : decode cX9_comes 21 = .ok (.isub, 1) := by decide +kernel
theorem dX9_comes_22 : decode cX9_comes 22 = .ok (.istore_n 3, 1) := by decide +kernel
theorem dX9_comes_23 : decode cX9_comes 23 = .ok (.aload_n 0, 1) := by decide +kernel
theorem dX9_comes_24 : decode cX9_comes 24 = .ok (.getfield 126, 3) := by decide +kernel
theorem dX9_comes_27 : decode cX9_comes 27 = .ok (.iload_n 3, 1) := by decide +kernel
theorem dX9_comes_28 : decode cX9_comes 28 = .ok (.iaload, 1) := by decide +kernel
theorem dX9_comes_29 : decode cX9_comes 29 = .ok (.iconst (-1), 1) := by decide +kernel
theorem dX9_comes_30 : decode cX9_comes 30 = .ok (.if_icmp .ne 35, 3) := by decide +kernel
theorem dX9_comes_33 : decode cX9_comes 33 = .ok (.aload_n 0, 1) := by decide +kernel
theorem dX9_comes_34 : decode cX9_comes 34 = .ok (.getfield 199, 3) := by decide +kernel
theorem dX9_comes_37 : decode cX9_comes 37 = .ok (.bipush 60, 2) := by decide +kernel
theorem dX9_comes_39 : decode cX9_comes 39 = .ok (.if_icmp .ge 26, 3) := by decide +kernel
theorem dX9_comes_42 : decode cX9_comes 42 = .ok (.aload_n 0, 1) := by decide +kernel
theorem dX9_comes_43 : decode cX9_comes 43 = .ok (.getfield 126, 3) := by decide +kernel
theorem dX9_comes_46 : decode cX9_comes 46 = .ok (.iload_n 3, 1) := by decide +kernel
theorem dX9_comes_47 : decode cX9_comes 47 = .ok (.bipush 100, 2) := by decide +kernel
theorem dX9_comes_49 : decode cX9_comes 49 = .ok (.aload_n 0, 1) := by decide +kernel
theorem dX9_comes_50 : decode cX9_comes 50 = .ok (.getfield 199, 3) := by decide +kernel
theorem dX9_comes_53 : decode cX9_comes 53 = .ok (.iadd, 1) := by decide +kernel
theorem dX9_comes_54 : decode cX9_comes 54 = .ok (.iastore, 1) := by decide +kernel
theorem dX9_comes_55 : decode cX9_comes 55 = .ok (.aload_n 0, 1) := by decide +kernel
theorem dX9_comes_56 : decode cX9_comes 56 = .ok (.dup, 1) := by decide +kernel
theorem dX9_comes_57 : decode cX9_comes 57 = .ok (.getfield 199, 3) := by decide +kernel
theorem dX9_comes_60 : decode cX9_comes 60 = .ok (.iconst 1, 1) := by decide +kernel
theorem dX9_comes_61 : decode cX9_comes 61 = .ok (.iadd, 1) := by decide +kernel
theorem dX9_comes_62 : decode cX9_comes 62 = .ok (.putfield 199, 3) := by decide +kernel
theorem dX9_comes_65 : decode cX9_comes 65 = .ok (.aload_n 0, 1) := by decide +kernel
theorem dX9_comes_66 : decode cX9_comes 66 = .ok (.getfield 126, 3) := by decide +kernel
theorem dX9_comes_69 : decode cX9_comes 69 = .ok (.iload_n 3, 1) := by decide +kernel
theorem dX9_comes_70 : decode cX9_comes 70 = .ok (.iaload, 1) := by decide +kernel
theorem dX9_comes_71 : decode cX9_comes 71 = .ok (.ireturn, 1) := by decide +kernel
theorem dX9_add_0 : decode cX9_add 0 = .ok (.iconst 0, 1) := by decide +kernel
theorem dX9_add_1 : decode cX9_add 1 = .ok (.istore_n 3, 1) := by decide +kernel
theorem dX9_add_2 : decode cX9_add 2 = .ok (.iload_n 3, 1) := by decide +kernel
theorem dX9_add_3 : decode cX9_add 3 = .ok (.iconst 4, 1) := by decide +kernel
theorem dX9_add_4 : decode cX9_add 4 = .ok (.if_icmp .ge 16, 3) := by decide +kernel
theorem dX9_add_7 : decode cX9_add 7 = .ok (.aload_n 0, 1) := by decide +kernel
theorem dX9_add_8 : decode cX9_add 8 = .ok (.getfield 126, 3) := by decide +kernel
theorem dX9_add_11 : decode cX9_add 11 = .ok (.iload_n 3, 1) := by decide +kernel
theorem dX9_add_12 : decode cX9_add 12 = .ok (.iconst (-1), 1) := by decide +kernel
theorem dX9_add_13 : decode cX9_add 13 = .ok (.iastore, 1) := by decide +kernel
theorem dX9_add_14 : decode cX9_add 14 = .ok (.iinc 3 1, 3) := by decide +kernel
theorem dX9_add_17 : decode cX9_add 17 = .ok (.goto (-15), 3) := by decide +kernel
theorem dX9_add_20 : decode cX9_add 20 = .ok (.bipush 6, 2) := by decide +kernel
theorem dX9_add_22 : decode cX9_add 22 = .ok (.iload_n 1, 1) := by decide +kernel
theorem dX9_add_23 : decode cX9_add 23 = .ok (.imul, 1) := by decide +kernel
theorem dX9_add_24 : decode cX9_add 24 = .ok (.istore_n 3, 1) := by decide +kernel
theorem dX9_add_25 : decode cX9_add 25 = .ok (.iload_n 3, 1) := by decide +kernel
theorem dX9_add_26 : decode cX9_add 26 = .ok (.bipush 6, 2) := by decide +kernel
theorem dX9_add_28 : decode cX9_add 28 = .ok (.iload_n 1, 1) := by decide +kernel
theorem dX9_add_29 : decode cX9_add 29 = .ok (.imul, 1) := by decide +kernel
theorem dX9_add_30 : decode cX9_add 30 = .ok (.aload_n 0, 1) := by decide +kernel
theorem dX9_add_31 : decode cX9_add 31 = .ok (.getfield 23, 3) := by decide +kernel
theorem dX9_add_34 : decode cX9_add 34 = .ok (.iload_n 1, 1) := by decide +kernel
theorem dX9_add_35 : decode cX9_add 35 = .ok (.iaload, 1) := by decide +kernel
theorem dX9_add_36 : decode cX9_add 36 = .ok (.iadd, 1) := by decide +kernel
theorem dX9_add_37 : decode cX9_add 37 = .ok (.if_icmp .ge 118, 3) := by decide +kernel
theorem dX9_add_40 : decode cX9_add 40 = .ok (.aload_n 0, 1) := by decide +kernel
theorem dX9_add_41 : decode cX9_add 41 = .ok (.getfield 35, 3) := by decide +kernel
theorem dX9_add_44 : decode cX9_add 44 = .ok (.iload_n 3, 1) := by decide +kernel
theorem dX9_add_45 : decode cX9_add 45 = .ok (.baload, 1) := by decide +kernel
theorem dX9_add_46 : decode cX9_add 46 = .ok (.ifCond .eq 103, 3) := by decide +kernel
theorem dX9_add_49 : decode cX9_add 49 = .ok (.aload_n 0, 1) := by decide +kernel
theorem dX9_add_50 : decode cX9_add 50 = .ok (.iload_n 3, 1) := by decide +kernel
theorem dX9_add_51 : decode cX9_add 51 = .ok (.iload_n 2, 1) := by decide +kernel
theorem dX9_add_52 : decode cX9_add 52 = .ok (.invokevirtual 202, 3) := by decide +kernel
theorem dX9_add_55 : decode cX9_add 55 = .ok (.ifCond .eq 6, 3) := by decide +kernel
theorem dX9_add_58 : decode cX9_add 58 = .ok (.goto 91, 3) := by decide +kernel
theorem dX9_add_61 : decode cX9_add 61 = .ok (.aload_n 0, 1) := by decide +kernel
theorem dX9_add_62 : decode cX9_add 62 = .ok (.getfield 77, 3) := by decide +kernel
theorem dX9_add_65 : decode cX9_add 65 = .ok (.aload_n 0, 1) := by decide +kernel
theorem dX9_add_66 : decode cX9_add 66 = .ok (.getfield 16, 3) := by decide +kernel
theorem dX9_add_69 : decode cX9_add 69 = .ok (.iload_n 1, 1) := by decide +kernel
theorem dX9_add_70 : decode cX9_add 70 = .ok (.iaload, 1) := by decide +kernel
theorem dX9_add_71 : decode cX9_add 71 = .ok (.iconst 1, 1) := by decide +kernel
theorem dX9_add_72 : decode cX9_add 72 = .ok (.bastore, 1) := by decide +kernel
theorem dX9_add_73 : decode cX9_add 73 = .ok (.aload_n 0, 1) := by decide +kernel
theorem dX9_add_74 : decode cX9_add 74 = .ok (.aload_n 0, 1) := by decide +kernel
theorem dX9_add_75 : decode cX9_add 75 = .ok (.getfield 26, 3) := by decide +kernel
theorem dX9_add_78 : decode cX9_add 78 = .ok (.iload_n 3, 1) := by decide +kernel
theorem dX9_add_79 : decode cX9_add 79 = .ok (.iaload, 1) := by decide +kernel
theorem dX9_add_80 : decode cX9_add 80 = .ok (.iload_n 2, 1) := by decide +kernel
theorem dX9_add_81 : decode cX9_add 81 = .ok (.invokevirtual 205, 3) := by decide +kernel
theorem dX9_add_84 : decode cX9_add 84 = .ok (.istore 4, 2) := by decide +kernel
theorem dX9_add_86 : decode cX9_add 86 = .ok (.iload 4, 2) := by decide +kernel
theorem dX9_add_88 : decode cX9_add 88 = .ok (.iconst (-1), 1) := by decide +kernel
theorem dX9_add_89 : decode cX9_add 89 = .ok (.if_icmp .ne 7, 3) := by decide +kernel
theorem dX9_add_92 : decode cX9_add 92 = .ok (.iconst (-1), 1) := by decide +kernel
theorem dX9_add_93 : decode cX9_add 93 = .ok (.goto 14, 3) := by decide +kernel
theorem dX9_add_96 : decode cX9_add 96 = .ok (.aload_n 0, 1) := by decide +kernel
theorem dX9_add_97 : decode cX9_add 97 = .ok (.aload_n 0, 1) := by decide +kernel
theorem dX9_add_98 : decode cX9_add 98 = .ok (.getfield 32, 3) := by decide +kernel
theorem dX9_add_101 : decode cX9_add 101 = .ok (.iload_n 3, 1) := by decide +kernel
theorem dX9_add_102 : decode cX9_add 102 = .ok (.iaload, 1) := by decide +kernel
theorem dX9_add_103 : decode cX9_add 103 = .ok (.iload_n 2, 1) := by decide +kernel
theorem dX9_add_104 : decode cX9_add 104 = .ok (.invokevirtual 205, 3) := by decide +kernel
theorem dX9_add_107 : decode cX9_add 107 = .ok (.istore 5, 2) := by decide +kernel
theorem dX9_add_109 : decode cX9_add 109 = .ok (.iload 5, 2) := by decide +kernel
theorem dX9_add_111 : decode cX9_add 111 = .ok (.iconst (-1), 1) := by decide +kernel
theorem dX9_add_112 : decode cX9_add 112 = .ok (.if_icmp .eq 35, 3) := by decide +kernel
theorem dX9_add_115 : decode cX9_add 115 = .ok (.aload_n 0, 1) := by decide +kernel
theorem dX9_add_116 : decode cX9_add 116 = .ok (.aload_n 0, 1) := by decide +kernel
theorem dX9_add_117 : decode cX9_add 117 = .ok (.getfield 16, 3) := by decide +kernel
theorem dX9_add_120 : decode cX9_add 120 = .ok (.iload_n 1, 1) := by decide +kernel
theorem dX9_add_121 : decode cX9_add 121 = .ok (.iaload, 1) := by decide +kernel
theorem dX9_add_122 : decode cX9_add 122 = .ok (.iload 4, 2) := by decide +kernel
theorem dX9_add_124 : decode cX9_add 124 = .ok (.aload_n 0, 1) := by decide +kernel
theorem dX9_add_125 : decode cX9_add 125 = .ok (.aload_n 0, 1) := by decide +kernel
theorem dX9_add_126 : decode cX9_add 126 = .ok (.getfield 117, 3) := by decide +kernel
theorem dX9_add_129 : decode cX9_add 129 = .ok (.iload_n 2, 1) := by decide +kernel
theorem dX9_add_130 : decode cX9_add 130 = .ok (.aload_n 0, 1) := by decide +kernel
theorem dX9_add_131 : decode cX9_add 131 = .ok (.getfield 29, 3) := by decide +kernel
theorem dX9_add_134 : decode cX9_add 134 = .ok (.iload_n 3, 1) := by decide +kernel
theorem dX9_add_135 : decode cX9_add 135 = .ok (.iaload, 1) := by decide +kernel
theorem dX9_add_136 : decode cX9_add 136 = .ok (.invokevirtual 183, 3) := by decide +kernel
theorem dX9_add_139 : decode cX9_add 139 = .ok (.iload 5, 2) := by decide +kernel
theorem dX9_add_141 : decode cX9_add 141 = .ok (.invokevirtual 209, 3) := by decide +kernel
theorem dX9_add_144 : decode cX9_add 144 = .ok (.ifCond .ne 5, 3) := by decide +kernel
theorem dX9_add_147 : decode cX9_add 147 = .ok (.iconst 0, 1) := by decide +kernel
theorem dX9_add_148 : decode cX9_add 148 = .ok (.ireturn, 1) := by decide +kernel
theorem dX9_add_149 : decode cX9_add 149 = .ok (.iinc 3 1, 3) := by decide +kernel
theorem dX9_add_152 : decode cX9_add 152 = .ok (.goto (-127), 3) := by decide +kernel
theorem dX9_add_155 : decode cX9_add 155 = .ok (.iconst 1, 1) := by decide +kernel
theorem dX9_add_156 : decode cX9_add 156 = .ok (.ireturn, 1) := by decide +kernel
theorem dX9_takeAway_0 : decode cX9_takeAway 0 = .ok (.bipush 6, 2) := by decide +kernel
theorem dX9_takeAway_2 : decode cX9_takeAway 2 = .ok (.iload_n 1, 1) := by decide +kernel
theorem dX9_takeAway_3 : decode cX9_takeAway 3 = .ok (.imul, 1) := by decide +kernel
theorem dX9_takeAway_4 : decode cX9_takeAway 4 = .ok (.istore_n 3, 1) := by decide +kernel
theorem dX9_takeAway_5 : decode cX9_takeAway 5 = .ok (.iload_n 3, 1) := by decide +kernel
theorem dX9_takeAway_6 : decode cX9_takeAway 6 = .ok (.bipush 6, 2) := by decide +kernel
theorem dX9_takeAway_8 : decode cX9_takeAway 8 = .ok (.iload_n 1, 1) := by decide +kernel
theorem dX9_takeAway_9 : decode cX9_takeAway 9 = .ok (.imul, 1) := by decide +kernel
theorem dX9_takeAway_10 : decode cX9_takeAway 10 = .ok (.aload_n 0, 1) := by decide +kernel
theorem dX9_takeAway_11 : decode cX9_takeAway 11 = .ok (.getfield 23, 3) := by decide +kernel
theorem dX9_takeAway_14 : decode cX9_takeAway 14 = .ok (.iload_n 1, 1) := by decide +kernel
theorem dX9_takeAway_15 : decode cX9_takeAway 15 = .ok (.iaload, 1) := by decide +kernel
theorem dX9_takeAway_16 : decode cX9_takeAway 16 = .ok (.iadd, 1) := by decide +kernel
theorem dX9_takeAway_17 : decode cX9_takeAway 17 = .ok (.if_icmp .ge 82, 3) := by decide +kernel
theorem dX9_takeAway_20 : decode cX9_takeAway 20 = .ok (.aload_n 0, 1) := by decide +kernel
theorem dX9_takeAway_21 : decode cX9_takeAway 21 = .ok (.getfield 35, 3) := by decide +kernel
theorem dX9_takeAway_24 : decode cX9_takeAway 24 = .ok (.iload_n 3, 1) := by decide +kernel
theorem dX9_takeAway_25 : decode cX9_takeAway 25 = .ok (.baload, 1) := by decide +kernel
theorem dX9_takeAway_26 : decode cX9_takeAway 26 = .ok (.ifCond .ne 67, 3) := by decide +kernel
theorem dX9_takeAway_29 : decode cX9_takeAway 29 = .ok (.aload_n 0, 1) := by decide +kernel
theorem dX9_takeAway_30 : decode cX9_takeAway 30 = .ok (.iload_n 3, 1) := by decide +kernel
theorem dX9_takeAway_31 : decode cX9_takeAway 31 = .ok (.iload_n 2, 1) := by decide +kernel
theorem dX9_takeAway_32 : decode cX9_takeAway 32 = .ok (.invokevirtual 202, 3) := by decide +kernel
theorem dX9_takeAway_35 : decode cX9_takeAway 35 = .ok (.ifCond .ne 58, 3) := by decide +kernel
theorem dX9_takeAway_38 : decode cX9_takeAway 38 = .ok (.aload_n 0, 1) := by decide +kernel
theorem dX9_takeAway_39 : decode cX9_takeAway 39 = .ok (.aload_n 0, 1) := by decide +kernel
theorem dX9_takeAway_40 : decode cX9_takeAway 40 = .ok (.getfield 16, 3) := by decide +kernel
theorem dX9_takeAway_43 : decode cX9_takeAway 43 = .ok (.iload_n 1, 1) := by decide +kernel
theorem dX9_takeAway_44 : decode cX9_takeAway 44 = .ok (.iaload, 1) := by decide +kernel
theorem dX9_takeAway_45 : decode cX9_takeAway 45 = .ok (.aload_n 0, 1) := by decide +kernel
theorem dX9_takeAway_46 : decode cX9_takeAway 46 = .ok (.aload_n 0, 1) := by decide +kernel
theorem dX9_takeAway_47 : decode cX9_takeAway 47 = .ok (.getfield 117, 3) := by decide +kernel
theorem dX9_takeAway_50 : decode cX9_takeAway 50 = .ok (.iload_n 2, 1) := by decide +kernel
theorem dX9_takeAway_51 : decode cX9_takeAway 51 = .ok (.aload_n 0, 1) := by decide +kernel
theorem dX9_takeAway_52 : decode cX9_takeAway 52 = .ok (.getfield 26, 3) := by decide +kernel
theorem dX9_takeAway_55 : decode cX9_takeAway 55 = .ok (.iload_n 3, 1) := by decide +kernel
theorem dX9_takeAway_56 : decode cX9_takeAway 56 = .ok (.iaload, 1) := by decide +kernel
theorem dX9_takeAway_57 : decode cX9_takeAway 57 = .ok (.invokevirtual 183, 3) := by decide +kernel
theorem dX9_takeAway_60 : decode cX9_takeAway 60 = .ok (.aload_n 0, 1) := by decide +kernel
theorem dX9_takeAway_61 : decode cX9_takeAway 61 = .ok (.aload_n 0, 1) := by decide +kernel
theorem dX9_takeAway_62 : decode cX9_takeAway 62 = .ok (.getfield 117, 3) := by decide +kernel
theorem dX9_takeAway_65 : decode cX9_takeAway 65 = .ok (.iload_n 2, 1) := by decide +kernel
theorem dX9_takeAway_66 : decode cX9_takeAway 66 = .ok (.aload_n 0, 1) := by decide +kernel
theorem dX9_takeAway_67 : decode cX9_takeAway 67 = .ok (.getfield 29, 3) := by decide +kernel
theorem dX9_takeAway_70 : decode cX9_takeAway 70 = .ok (.iload_n 3, 1) := by decide +kernel
theorem dX9_takeAway_71 : decode cX9_takeAway 71 = .ok (.iaload, 1) := by decide +kernel
theorem dX9_takeAway_72 : decode cX9_takeAway 72 = .ok (.invokevirtual 183, 3) := by decide +kernel
theorem dX9_takeAway_75 : decode cX9_takeAway 75 = .ok (.aload_n 0, 1) := by decide +kernel
theorem dX9_takeAway_76 : decode cX9_takeAway 76 = .ok (.aload_n 0, 1) := by decide +kernel
theorem dX9_takeAway_77 : decode cX9_takeAway 77 = .ok (.getfield 117, 3) := by decide +kernel
theorem dX9_takeAway_80 : decode cX9_takeAway 80 = .ok (.iload_n 2, 1) := by decide +kernel
theorem dX9_takeAway_81 : decode cX9_takeAway 81 = .ok (.aload_n 0, 1) := by decide +kernel
theorem dX9_takeAway_82 : decode cX9_takeAway 82 = .ok (.getfield 32, 3) := by decide +kernel
theorem dX9_takeAway_85 : decode cX9_takeAway 85 = .ok (.iload_n 3, 1) := by decide +kernel
theorem dX9_takeAway_86 : decode cX9_takeAway 86 = .ok (.iaload, 1) := by decide +kernel
theorem dX9_takeAway_87 : decode cX9_takeAway 87 = .ok (.invokevirtual 183, 3) := by decide +kernel
theorem dX9_takeAway_90 : decode cX9_takeAway 90 = .ok (.invokevirtual 213, 3) := by decide +kernel
theorem dX9_takeAway_93 : decode cX9_takeAway 93 = .ok (.iinc 3 1, 3) := by decide +kernel
theorem dX9_takeAway_96 : decode cX9_takeAway 96 = .ok (.goto (-91), 3) := by decide +kernel
theorem dX9_takeAway_99 : decode cX9_takeAway 99 = .ok (.return_, 1) := by decide +kernel
theorem dX9_change_0 : decode cX9_change 0 = .ok (.aload_n 0, 1) := by decide +kernel
theorem dX9_change_1 : decode cX9_change 1 = .ok (.iload_n 1, 1) := by decide +kernel
theorem dX9_change_2 : decode cX9_change 2 = .ok (.invokevirtual 217, 3) := by decide +kernel
theorem dX9_change_5 : decode cX9_change 5 = .ok (.istore_n 2, 1) := by decide +kernel
theorem dX9_change_6 : decode cX9_change 6 = .ok (.iload_n 2, 1) := by decide +kernel
theorem dX9_change_7 : decode cX9_change 7 = .ok (.ifCond .le 5, 3) := by decide +kernel
theorem dX9_change_10 : decode cX9_change 10 = .ok (.iload_n 2, 1) := by decide +kernel
theorem dX9_change_11 : decode cX9_change 11 = .ok (.ireturn, 1) := by decide +kernel
theorem dX9_change_12 : decode cX9_change 12 = .ok (.aload_n 0, 1) := by decide +kernel
theorem dX9_change_13 : decode cX9_change 13 = .ok (.getfield 110, 3) := by decide +kernel
theorem dX9_change_16 : decode cX9_change 16 = .ok (.iload_n 1, 1) := by decide +kernel
theorem dX9_change_17 : decode cX9_change 17 = .ok (.aload_n 0, 1) := by decide +kernel
theorem dX9_change_18 : decode cX9_change 18 = .ok (.getfield 190, 3) := by decide +kernel
theorem dX9_change_21 : decode cX9_change 21 = .ok (.iastore, 1) := by decide +kernel
theorem dX9_change_22 : decode cX9_change 22 = .ok (.iconst 0, 1) := by decide +kernel
theorem dX9_change_23 : decode cX9_change 23 = .ok (.istore_n 3, 1) := by decide +kernel
theorem dX9_change_24 : decode cX9_change 24 = .ok (.iload_n 3, 1) := by decide +kernel
theorem dX9_change_25 : decode cX9_change 25 = .ok (.aload_n 0, 1) := by decide +kernel
theorem dX9_change_26 : decode cX9_change 26 = .ok (.getfield 190, 3) := by decide +kernel
theorem dX9_change_29 : decode cX9_change 29 = .ok (.if_icmp .ge 15, 3) := by decide +kernel
theorem dX9_change_32 : decode cX9_change 32 = .ok (.aload_n 0, 1) := by decide +kernel
theorem dX9_change_33 : decode cX9_change 33 = .ok (.iload_n 1, 1) := by decide +kernel
theorem dX9_change_34 : decode cX9_change 34 = .ok (.iload_n 3, 1) := by decide +kernel
theorem dX9_change_35 : decode cX9_change 35 = .ok (.invokevirtual 221, 3) := by decide +kernel
theorem dX9_change_38 : decode cX9_change 38 = .ok (.iinc 3 1, 3) := by decide +kernel
theorem dX9_change_41 : decode cX9_change 41 = .ok (.goto (-17), 3) := by decide +kernel
theorem dX9_change_44 : decode cX9_change 44 = .ok (.iconst 0, 1) := by decide +kernel
theorem dX9_change_45 : decode cX9_change 45 = .ok (.istore_n 3, 1) := by decide +kernel
theorem dX9_change_46 : decode cX9_change 46 = .ok (.iload_n 3, 1) := by decide +kernel
theorem dX9_change_47 : decode cX9_change 47 = .ok (.aload_n 0, 1) := by decide +kernel
theorem dX9_change_48 : decode cX9_change 48 = .ok (.getfield 190, 3) := by decide +kernel
theorem dX9_change_51 : decode cX9_change 51 = .ok (.if_icmp .ge 20, 3) := by decide +kernel
theorem dX9_change_54 : decode cX9_change 54 = .ok (.aload_n 0, 1) := by decide +kernel
theorem dX9_change_55 : decode cX9_change 55 = .ok (.iload_n 1, 1) := by decide +kernel
theorem dX9_change_56 : decode cX9_change 56 = .ok (.iload_n 3, 1) := by decide +kernel
theorem dX9_change_57 : decode cX9_change 57 = .ok (.invokevirtual 225, 3) := by decide +kernel
theorem dX9_change_60 : decode cX9_change 60 = .ok (.ifCond .ne 5, 3) := by decide +kernel
theorem dX9_change_63 : decode cX9_change 63 = .ok (.iconst 4, 1) := by decide +kernel
theorem dX9_change_64 : decode cX9_change 64 = .ok (.ireturn, 1) := by decide +kernel
theorem dX9_change_65 : decode cX9_change 65 = .ok (.iinc 3 1, 3) := by decide +kernel
theorem dX9_change_68 : decode cX9_change 68 = .ok (.goto (-22), 3) := by decide +kernel
theorem dX9_change_71 : decode cX9_change 71 = .ok (.iconst 0, 1) := by decide +kernel
theorem dX9_change_72 : decode cX9_change 72 = .ok (.ireturn, 1) := by decide +kernel
theorem dX9_wipe_0 : decode cX9_wipe 0 = .ok (.aload_n 0, 1) := by decide +kernel
theorem dX9_wipe_1 : decode cX9_wipe 1 = .ok (.getfield 16, 3) := by decide +kernel
theorem dX9_wipe_4 : decode cX9_wipe 4 = .ok (.iload_n 1, 1) := by decide +kernel
theorem dX9_wipe_5 : decode cX9_wipe 5 = .ok (.iaload, 1) := by decide +kernel
theorem dX9_wipe_6 : decode cX9_wipe 6 = .ok (.istore_n 3, 1) := by decide +kernel
theorem dX9_wipe_7 : decode cX9_wipe 7 = .ok (.iload_n 3, 1) := by decide +kernel
theorem dX9_wipe_8 : decode cX9_wipe 8 = .ok (.ifCond .lt 14, 3) := by decide +kernel
theorem dX9_wipe_11 : decode cX9_wipe 11 = .ok (.aload_n 0, 1) := by decide +kernel
theorem dX9_wipe_12 : decode cX9_wipe 12 = .ok (.getfield 77, 3) := by decide +kernel
theorem dX9_wipe_15 : decode cX9_wipe 15 = .ok (.iload_n 3, 1) := by decide +kernel
theorem dX9_wipe_16 : decode cX9_wipe 16 = .ok (.baload, 1) := by decide +kernel
theorem dX9_wipe_17 : decode cX9_wipe 17 = .ok (.ifCond .ne 5, 3) := by decide +kernel
theorem dX9_wipe_20 : decode cX9_wipe 20 = .ok (.iconst 2, 1) := by decide +kernel
theorem dX9_wipe_21 : decode cX9_wipe 21 = .ok (.ireturn, 1) := by decide +kernel
theorem dX9_wipe_22 : decode cX9_wipe 22 = .ok (.iconst 0, 1) := by decide +kernel
theorem dX9_wipe_23 : decode cX9_wipe 23 = .ok (.istore 4, 2) := by decide +kernel
theorem dX9_wipe_25 : decode cX9_wipe 25 = .ok (.iload 4, 2) := by decide +kernel
theorem dX9_wipe_27 : decode cX9_wipe 27 = .ok (.bipush 7, 2) := by decide +kernel
theorem dX9_wipe_29 : decode cX9_wipe 29 = .ok (.if_icmp .ge 68, 3) := by decide +kernel
theorem dX9_wipe_32 : decode cX9_wipe 32 = .ok (.aload_n 0, 1) := by decide +kernel
theorem dX9_wipe_33 : decode cX9_wipe 33 = .ok (.getfield 77, 3) := by decide +kernel
theorem dX9_wipe_36 : decode cX9_wipe 36 = .ok (.iload 4, 2) := by decide +kernel
theorem dX9_wipe_38 : decode cX9_wipe 38 = .ok (.baload, 1) := by decide +kernel
theorem dX9_wipe_39 : decode cX9_wipe 39 = .ok (.ifCond .eq 52, 3) := by decide +kernel
theorem dX9_wipe_42 : decode cX9_wipe 42 = .ok (.iload_n 3, 1) := by decide +kernel
theorem dX9_wipe_43 : decode cX9_wipe 43 = .ok (.iload 4, 2) := by decide +kernel
theorem dX9_wipe_45 : decode cX9_wipe 45 = .ok (.if_icmp .eq 19, 3) := by decide +kernel
theorem dX9_wipe_48 : decode cX9_wipe 48 = .ok (.iload_n 3, 1) := by decide +kernel
theorem dX9_wipe_49 : decode cX9_wipe 49 = .ok (.iconst (-1), 1) := by decide +kernel
theorem dX9_wipe_50 : decode cX9_wipe 50 = .ok (.if_icmp .eq 14, 3) := by decide +kernel
theorem dX9_wipe_53 : decode cX9_wipe 53 = .ok (.iload_n 3, 1) := by decide +kernel
theorem dX9_wipe_54 : decode cX9_wipe 54 = .ok (.bipush (-2), 2) := by decide +kernel
theorem dX9_wipe_56 : decode cX9_wipe 56 = .ok (.if_icmp .ne 35, 3) := by decide +kernel
theorem dX9_wipe_59 : decode cX9_wipe 59 = .ok (.iload 4, 2) := by decide +kernel
theorem dX9_wipe_61 : decode cX9_wipe 61 = .ok (.ifCond .le 30, 3) := by decide +kernel
theorem dX9_wipe_64 : decode cX9_wipe 64 = .ok (.aload_n 0, 1) := by decide +kernel
theorem dX9_wipe_65 : decode cX9_wipe 65 = .ok (.iload 4, 2) := by decide +kernel
theorem dX9_wipe_67 : decode cX9_wipe 67 = .ok (.invokevirtual 171, 3) := by decide +kernel
theorem dX9_wipe_70 : decode cX9_wipe 70 = .ok (.aload_n 0, 1) := by decide +kernel
theorem dX9_wipe_71 : decode cX9_wipe 71 = .ok (.getfield 77, 3) := by decide +kernel
theorem dX9_wipe_74 : decode cX9_wipe 74 = .ok (.iload 4, 2) := by decide +kernel
theorem dX9_wipe_76 : decode cX9_wipe 76 = .ok (.iload_n 2, 1) := by decide +kernel
theorem dX9_wipe_77 : decode cX9_wipe 77 = .ok (.ifCond .eq 8, 3) := by decide +kernel
theorem dX9_wipe_80 : decode cX9_wipe 80 = .ok (.iload 4, 2) := by decide +kernel
theorem dX9_wipe_82 : decode cX9_wipe 82 = .ok (.ifCond .ne 7, 3) := by decide +kernel
theorem dX9_wipe_85 : decode cX9_wipe 85 = .ok (.iconst 1, 1) := by decide +kernel
theorem dX9_wipe_86 : decode cX9_wipe 86 = .ok (.goto 4, 3) := by decide +kernel
theorem dX9_wipe_89 : decode cX9_wipe 89 = .ok (.iconst 0, 1) := by decide +kernel
theorem dX9_wipe_90 : decode cX9_wipe 90 = .ok (.bastore, 1) := by decide +kernel
theorem dX9_wipe_91 : decode cX9_wipe 91 = .ok (.iinc 4 1, 3) := by decide +kernel
theorem dX9_wipe_94 : decode cX9_wipe 94 = .ok (.goto (-69), 3) := by decide +kernel
theorem dX9_wipe_97 : decode cX9_wipe 97 = .ok (.iconst 0, 1) := by decide +kernel
theorem dX9_wipe_98 : decode cX9_wipe 98 = .ok (.ireturn, 1) := by decide +kernel
theorem dX9_copy_0 : decode cX9_copy 0 = .ok (.aload_n 0, 1) := by decide +kernel
theorem dX9_copy_1 : decode cX9_copy 1 = .ok (.getfield 13, 3) := by decide +kernel
theorem dX9_copy_4 : decode cX9_copy 4 = .ok (.iload_n 1, 1) := by decide +kernel
theorem dX9_copy_5 : decode cX9_copy 5 = .ok (.iaload, 1) := by decide +kernel
theorem dX9_copy_6 : decode cX9_copy 6 = .ok (.istore_n 2, 1) := by decide +kernel
theorem dX9_copy_7 : decode cX9_copy 7 = .ok (.aload_n 0, 1) := by decide +kernel
theorem dX9_copy_8 : decode cX9_copy 8 = .ok (.getfield 16, 3) := by decide +kernel
theorem dX9_copy_11 : decode cX9_copy 11 = .ok (.iload_n 1, 1) := by decide +kernel
theorem dX9_copy_12 : decode cX9_copy 12 = .ok (.iaload, 1) := by decide +kernel
theorem dX9_copy_13 : decode cX9_copy 13 = .ok (.istore_n 3, 1) := by decide +kernel
theorem dX9_copy_14 : decode cX9_copy 14 = .ok (.aload_n 0, 1) := by decide +kernel
theorem dX9_copy_15 : decode cX9_copy 15 = .ok (.getfield 77, 3) := by decide +kernel
theorem dX9_copy_18 : decode cX9_copy 18 = .ok (.iload_n 2, 1) := by decide +kernel
theorem dX9_copy_19 : decode cX9_copy 19 = .ok (.baload, 1) := by decide +kernel
theorem dX9_copy_20 : decode cX9_copy 20 = .ok (.ifCond .ne 5, 3) := by decide +kernel
theorem dX9_copy_23 : decode cX9_copy 23 = .ok (.iconst 2, 1) := by decide +kernel
theorem dX9_copy_24 : decode cX9_copy 24 = .ok (.ireturn, 1) := by decide +kernel
theorem dX9_copy_25 : decode cX9_copy 25 = .ok (.iload_n 2, 1) := by decide +kernel
theorem dX9_copy_26 : decode cX9_copy 26 = .ok (.iload_n 3, 1) := by decide +kernel
theorem dX9_copy_27 : decode cX9_copy 27 = .ok (.if_icmp .ne 5, 3) := by decide +kernel
theorem dX9_copy_30 : decode cX9_copy 30 = .ok (.iconst 0, 1) := by decide +kernel
theorem dX9_copy_31 : decode cX9_copy 31 = .ok (.ireturn, 1) := by decide +kernel
theorem dX9_copy_32 : decode cX9_copy 32 = .ok (.aload_n 0, 1) := by decide +kernel
theorem dX9_copy_33 : decode cX9_copy 33 = .ok (.getfield 7, 3) := by decide +kernel
theorem dX9_copy_36 : decode cX9_copy 36 = .ok (.iload_n 1, 1) := by decide +kernel
theorem dX9_copy_37 : decode cX9_copy 37 = .ok (.iaload, 1) := by decide +kernel
theorem dX9_copy_38 : decode cX9_copy 38 = .ok (.bipush 8, 2) := by decide +kernel
theorem dX9_copy_40 : decode cX9_copy 40 = .ok (.if_icmp .eq 8, 3) := by decide +kernel
theorem dX9_copy_43 : decode cX9_copy 43 = .ok (.aload_n 0, 1) := by decide +kernel
theorem dX9_copy_44 : decode cX9_copy 44 = .ok (.iload_n 3, 1) := by decide +kernel
theorem dX9_copy_45 : decode cX9_copy 45 = .ok (.invokevirtual 171, 3) := by decide +kernel
theorem dX9_copy_48 : decode cX9_copy 48 = .ok (.aload_n 0, 1) := by decide +kernel
theorem dX9_copy_49 : decode cX9_copy 49 = .ok (.getfield 77, 3) := by decide +kernel
theorem dX9_copy_52 : decode cX9_copy 52 = .ok (.iload_n 3, 1) := by decide +kernel
theorem dX9_copy_53 : decode cX9_copy 53 = .ok (.iconst 1, 1) := by decide +kernel
theorem dX9_copy_54 : decode cX9_copy 54 = .ok (.bastore, 1) := by decide +kernel
theorem dX9_copy_55 : decode cX9_copy 55 = .ok (.aload_n 0, 1) := by decide +kernel
theorem dX9_copy_56 : decode cX9_copy 56 = .ok (.getfield 7, 3) := by decide +kernel
theorem dX9_copy_59 : decode cX9_copy 59 = .ok (.iload_n 1, 1) := by decide +kernel
theorem dX9_copy_60 : decode cX9_copy 60 = .ok (.iaload, 1) := by decide +kernel
theorem dX9_copy_61 : decode cX9_copy 61 = .ok (.bipush 7, 2) := by decide +kernel
theorem dX9_copy_63 : decode cX9_copy 63 = .ok (.if_icmp .ne 57, 3) := by decide +kernel
theorem dX9_copy_66 : decode cX9_copy 66 = .ok (.iconst 0, 1) := by decide +kernel
theorem dX9_copy_67 : decode cX9_copy 67 = .ok (.istore 4, 2) := by decide +kernel
theorem dX9_copy_69 : decode cX9_copy 69 = .ok (.iload 4, 2) := by decide +kernel
theorem dX9_copy_71 : decode cX9_copy 71 = .ok (.aload_n 0, 1) := by decide +kernel
theorem dX9_copy_72 : decode cX9_copy 72 = .ok (.getfield 160, 3) := by decide +kernel
theorem dX9_copy_75 : decode cX9_copy 75 = .ok (.if_icmp .ge 38, 3) := by decide +kernel
theorem dX9_copy_78 : decode cX9_copy 78 = .ok (.aload_n 0, 1) := by decide +kernel
theorem dX9_copy_79 : decode cX9_copy 79 = .ok (.getfield 65, 3) := by decide +kernel
theorem dX9_copy_82 : decode cX9_copy 82 = .ok (.iload 4, 2) := by decide +kernel
theorem dX9_copy_84 : decode cX9_copy 84 = .ok (.aload_n 0, 1) := by decide +kernel
theorem dX9_copy_85 : decode cX9_copy 85 = .ok (.getfield 65, 3) := by decide +kernel
theorem dX9_copy_88 : decode cX9_copy 88 = .ok (.iload 4, 2) := by decide +kernel
theorem dX9_copy_90 : decode cX9_copy 90 = .ok (.iaload, 1) := by decide +kernel
theorem dX9_copy_91 : decode cX9_copy 91 = .ok (.iload_n 2, 1) := by decide +kernel
theorem dX9_copy_92 : decode cX9_copy 92 = .ok (.if_icmp .ne 7, 3) := by decide +kernel
theorem dX9_copy_95 : decode cX9_copy 95 = .ok (.iload_n 3, 1) := by decide +kernel
theorem dX9_copy_96 : decode cX9_copy 96 = .ok (.goto 10, 3) := by decide +kernel
theorem dX9_copy_99 : decode cX9_copy 99 = .ok (.aload_n 0, 1) := by decide +kernel
theorem dX9_copy_100 : decode cX9_copy 100 = .ok (.getfield 65, 3) := by decide +kernel
theorem dX9_copy_103 : decode cX9_copy 103 = .ok (.iload 4, 2) := by decide +kernel
theorem dX9_copy_105 : decode cX9_copy 105 = .ok (.iaload, 1) := by decide +kernel
theorem dX9_copy_106 : decode cX9_copy 106 = .ok (.iastore, 1) := by decide +kernel
theorem dX9_copy_107 : decode cX9_copy 107 = .ok (.iinc 4 1, 3) := by decide +kernel
theorem dX9_copy_110 : decode cX9_copy 110 = .ok (.goto (-41), 3) := by decide +kernel
theorem dX9_copy_113 : decode cX9_copy 113 = .ok (.aload_n 0, 1) := by decide +kernel
theorem dX9_copy_114 : decode cX9_copy 114 = .ok (.iload_n 2, 1) := by decide +kernel
theorem dX9_copy_115 : decode cX9_copy 115 = .ok (.invokevirtual 228, 3) := by decide +kernel
theorem dX9_copy_118 : decode cX9_copy 118 = .ok (.iconst 0, 1) := by decide +kernel
theorem dX9_copy_119 : decode cX9_copy 119 = .ok (.ireturn, 1) := by decide +kernel
theorem dX9_copy_120 : decode cX9_copy 120 = .ok (.iconst 1, 1) := by decide +kernel
theorem dX9_copy_121 : decode cX9_copy 121 = .ok (.istore 4, 2) := by decide +kernel
theorem dX9_copy_123 : decode cX9_copy 123 = .ok (.aload_n 0, 1) := by decide +kernel
theorem dX9_copy_124 : decode cX9_copy 124 = .ok (.getfield 160, 3) := by decide +kernel
theorem dX9_copy_127 : decode cX9_copy 127 = .ok (.istore 5, 2) := by decide +kernel
theorem dX9_copy_129 : decode cX9_copy 129 = .ok (.iconst 0, 1) := by decide +kernel
theorem dX9_copy_130 : decode cX9_copy 130 = .ok (.istore 6, 2) := by decide +kernel
theorem dX9_copy_132 : decode cX9_copy 132 = .ok (.iload 6, 2) := by decide +kernel
theorem dX9_copy_134 : decode cX9_copy 134 = .ok (.iload 5, 2) := by decide +kernel
theorem dX9_copy_136 : decode cX9_copy 136 = .ok (.if_icmp .ge 61, 3) := by decide +kernel
theorem dX9_copy_139 : decode cX9_copy 139 = .ok (.aload_n 0, 1) := by decide +kernel
theorem dX9_copy_140 : decode cX9_copy 140 = .ok (.getfield 65, 3) := by decide +kernel
theorem dX9_copy_143 : decode cX9_copy 143 = .ok (.iload 6, 2) := by decide +kernel
theorem dX9_copy_145 : decode cX9_copy 145 = .ok (.iaload, 1) := by decide +kernel
theorem dX9_copy_146 : decode cX9_copy 146 = .ok (.iload_n 2, 1) := by decide +kernel
theorem dX9_copy_147 : decode cX9_copy 147 = .ok (.if_icmp .ne 44, 3) := by decide +kernel
theorem dX9_copy_150 : decode cX9_copy 150 = .ok (.iload 4, 2) := by decide +kernel
theorem dX9_copy_152 : decode cX9_copy 152 = .ok (.ifCond .eq 36, 3) := by decide +kernel
theorem dX9_copy_155 : decode cX9_copy 155 = .ok (.aload_n 0, 1) := by decide +kernel
theorem dX9_copy_156 : decode cX9_copy 156 = .ok (.iload_n 3, 1) := by decide +kernel
theorem dX9_copy_157 : decode cX9_copy 157 = .ok (.aload_n 0, 1) := by decide +kernel
theorem dX9_copy_158 : decode cX9_copy 158 = .ok (.getfield 68, 3) := by decide +kernel
theorem dX9_copy_161 : decode cX9_copy 161 = .ok (.iload 6, 2) := by decide +kernel
theorem dX9_copy_163 : decode cX9_copy 163 = .ok (.iaload, 1) := by decide +kernel
theorem dX9_copy_164 : decode cX9_copy 164 = .ok (.aload_n 0, 1) := by decide +kernel
theorem dX9_copy_165 : decode cX9_copy 165 = .ok (.getfield 71, 3) := by decide +kernel
theorem dX9_copy_168 : decode cX9_copy 168 = .ok (.iload 6, 2) := by decide +kernel
theorem dX9_copy_170 : decode cX9_copy 170 = .ok (.iaload, 1) := by decide +kernel
theorem dX9_copy_171 : decode cX9_copy 171 = .ok (.aload_n 0, 1) := by decide +kernel
theorem dX9_copy_172 : decode cX9_copy 172 = .ok (.getfield 74, 3) := by decide +kernel
theorem dX9_copy_175 : decode cX9_copy 175 = .ok (.iload 6, 2) := by decide +kernel
theorem dX9_copy_177 : decode cX9_copy 177 = .ok (.iaload, 1) := by decide +kernel
theorem dX9_copy_178 : decode cX9_copy 178 = .ok (.invokevirtual 209, 3) := by decide +kernel
theorem dX9_copy_181 : decode cX9_copy 181 = .ok (.ifCond .eq 7, 3) := by decide +kernel
theorem dX9_copy_184 : decode cX9_copy 184 = .ok (.iconst 1, 1) := by decide +kernel
theorem dX9_copy_185 : decode cX9_copy 185 = .ok (.goto 4, 3) := by decide +kernel
theorem dX9_copy_188 : decode cX9_copy 188 = .ok (.iconst 0, 1) := by decide +kernel
theorem dX9_copy_189 : decode cX9_copy 189 = .ok (.istore 4, 2) := by decide +kernel
theorem dX9_copy_191 : decode cX9_copy 191 = .ok (.iinc 6 1, 3) := by decide +kernel
theorem dX9_copy_194 : decode cX9_copy 194 = .ok (.goto (-62), 3) := by decide +kernel
theorem dX9_copy_197 : decode cX9_copy 197 = .ok (.iload 4, 2) := by decide +kernel
theorem dX9_copy_199 : decode cX9_copy 199 = .ok (.ifCond .eq 7, 3) := by decide +kernel
theorem dX9_copy_202 : decode cX9_copy 202 = .ok (.iconst 0, 1) := by decide +kernel
theorem dX9_copy_203 : decode cX9_copy 203 = .ok (.goto 4, 3) := by decide +kernel
theorem dX9_copy_206 : decode cX9_copy 206 = .ok (.iconst 4, 1) := by decide +kernel
theorem dX9_copy_207 : decode cX9_copy 207 = .ok (.ireturn, 1) := by decide +kernel
theorem dX9_readFile_0 : decode cX9_readFile 0 = .ok (.aload_n 0, 1) := by decide +kernel
theorem dX9_readFile_1 : decode cX9_readFile 1 = .ok (.getfield 13, 3) := by decide +kernel
theorem dX9_readFile_4 : decode cX9_readFile 4 = .ok (.iload_n 1, 1) := by decide +kernel
theorem dX9_readFile_5 : decode cX9_readFile 5 = .ok (.iaload, 1) := by decide +kernel
theorem dX9_readFile_6 : decode cX9_readFile 6 = .ok (.istore_n 2, 1) := by decide +kernel
theorem dX9_readFile_7 : decode cX9_readFile 7 = .ok (.aload_n 0, 1) := by decide +kernel
theorem dX9_readFile_8 : decode cX9_readFile 8 = .ok (.getfield 62, 3) := by decide +kernel
theorem dX9_readFile_11 : decode cX9_readFile 11 = .ok (.iload_n 2, 1) := by decide +kernel
theorem dX9_readFile_12 : decode cX9_readFile 12 = .ok (.baload, 1) := by decide +kernel
theorem dX9_readFile_13 : decode cX9_readFile 13 = .ok (.ifCond .eq 5, 3) := by decide +kernel
theorem dX9_readFile_16 : decode cX9_readFile 16 = .ok (.iconst 3, 1) := by decide +kernel
theorem dX9_readFile_17 : decode cX9_readFile 17 = .ok (.ireturn, 1) := by decide +kernel
theorem dX9_readFile_18 : decode cX9_readFile 18 = .ok (.aload_n 0, 1) := by decide +kernel
theorem dX9_readFile_19 : decode cX9_readFile 19 = .ok (.getfield 77, 3) := by decide +kernel
theorem dX9_readFile_22 : decode cX9_readFile 22 = .ok (.aload_n 0, 1) := by decide +kernel
theorem dX9_readFile_23 : decode cX9_readFile 23 = .ok (.getfield 16, 3) := by decide +kernel
theorem dX9_readFile_26 : decode cX9_readFile 26 = .ok (.iload_n 1, 1) := by decide +kernel
theorem dX9_readFile_27 : decode cX9_readFile 27 = .ok (.iaload, 1) := by decide +kernel
theorem dX9_readFile_28 : decode cX9_readFile 28 = .ok (.iconst 1, 1) := by decide +kernel
theorem dX9_readFile_29 : decode cX9_readFile 29 = .ok (.bastore, 1) := by decide +kernel
theorem dX9_readFile_30 : decode cX9_readFile 30 = .ok (.iconst 1, 1) := by decide +kernel
theorem dX9_readFile_31 : decode cX9_readFile 31 = .ok (.istore_n 3, 1) := by decide +kernel
theorem dX9_readFile_32 : decode cX9_readFile 32 = .ok (.bipush 10, 2) := by decide +kernel
theorem dX9_readFile_34 : decode cX9_readFile 34 = .ok (.iload_n 2, 1) := by decide +kernel
theorem dX9_readFile_35 : decode cX9_readFile 35 = .ok (.imul, 1) := by decide +kernel
theorem dX9_readFile_36 : decode cX9_readFile 36 = .ok (.istore 4, 2) := by decide +kernel
theorem dX9_readFile_38 : decode cX9_readFile 38 = .ok (.iload 4, 2) := by decide +kernel
theorem dX9_readFile_40 : decode cX9_readFile 40 = .ok (.bipush 10, 2) := by decide +kernel
theorem dX9_readFile_42 : decode cX9_readFile 42 = .ok (.iload_n 2, 1) := by decide +kernel
theorem dX9_readFile_43 : decode cX9_readFile 43 = .ok (.imul, 1) := by decide +kernel
theorem dX9_readFile_44 : decode cX9_readFile 44 = .ok (.aload_n 0, 1) := by decide +kernel
theorem dX9_readFile_45 : decode cX9_readFile 45 = .ok (.getfield 50, 3) := by decide +kernel
theorem dX9_readFile_48 : decode cX9_readFile 48 = .ok (.iload_n 2, 1) := by decide +kernel
theorem dX9_readFile_49 : decode cX9_readFile 49 = .ok (.iaload, 1) := by decide +kernel
theorem dX9_readFile_50 : decode cX9_readFile 50 = .ok (.iadd, 1) := by decide +kernel
theorem dX9_readFile_51 : decode cX9_readFile 51 = .ok (.if_icmp .ge 53, 3) := by decide +kernel
theorem dX9_readFile_54 : decode cX9_readFile 54 = .ok (.iload_n 3, 1) := by decide +kernel
theorem dX9_readFile_55 : decode cX9_readFile 55 = .ok (.ifCond .eq 41, 3) := by decide +kernel
theorem dX9_readFile_58 : decode cX9_readFile 58 = .ok (.aload_n 0, 1) := by decide +kernel
theorem dX9_readFile_59 : decode cX9_readFile 59 = .ok (.aload_n 0, 1) := by decide +kernel
theorem dX9_readFile_60 : decode cX9_readFile 60 = .ok (.getfield 16, 3) := by decide +kernel
theorem dX9_readFile_63 : decode cX9_readFile 63 = .ok (.iload_n 1, 1) := by decide +kernel
theorem dX9_readFile_64 : decode cX9_readFile 64 = .ok (.iaload, 1) := by decide +kernel
theorem dX9_readFile_65 : decode cX9_readFile 65 = .ok (.aload_n 0, 1) := by decide +kernel
theorem dX9_readFile_66 : decode cX9_readFile 66 = .ok (.getfield 53, 3) := by decide +kernel
theorem dX9_readFile_69 : decode cX9_readFile 69 = .ok (.iload 4, 2) := by decide +kernel
theorem dX9_readFile_71 : decode cX9_readFile 71 = .ok (.iaload, 1) := by decide +kernel
theorem dX9_readFile_72 : decode cX9_readFile 72 = .ok (.aload_n 0, 1) := by decide +kernel
theorem dX9_readFile_73 : decode cX9_readFile 73 = .ok (.getfield 56, 3) := by decide +kernel
theorem dX9_readFile_76 : decode cX9_readFile 76 = .ok (.iload 4, 2) := by decide +kernel
theorem dX9_readFile_78 : decode cX9_readFile 78 = .ok (.iaload, 1) := by decide +kernel
theorem dX9_readFile_79 : decode cX9_readFile 79 = .ok (.aload_n 0, 1) := by decide +kernel
theorem dX9_readFile_80 : decode cX9_readFile 80 = .ok (.getfield 59, 3) := by decide +kernel
theorem dX9_readFile_83 : decode cX9_readFile 83 = .ok (.iload 4, 2) := by decide +kernel
theorem dX9_readFile_85 : decode cX9_readFile 85 = .ok (.iaload, 1) := by decide +kernel
theorem dX9_readFile_86 : decode cX9_readFile 86 = .ok (.invokevirtual 209, 3) := by decide +kernel
theorem dX9_readFile_89 : decode cX9_readFile 89 = .ok (.ifCond .eq 7, 3) := by decide +kernel
theorem dX9_readFile_92 : decode cX9_readFile 92 = .ok (.iconst 1, 1) := by decide +kernel
theorem dX9_readFile_93 : decode cX9_readFile 93 = .ok (.goto 4, 3) := by decide +kernel
theorem dX9_readFile_96 : decode cX9_readFile 96 = .ok (.iconst 0, 1) := by decide +kernel
theorem dX9_readFile_97 : decode cX9_readFile 97 = .ok (.istore_n 3, 1) := by decide +kernel
theorem dX9_readFile_98 : decode cX9_readFile 98 = .ok (.iinc 4 1, 3) := by decide +kernel
theorem dX9_readFile_101 : decode cX9_readFile 101 = .ok (.goto (-63), 3) := by decide +kernel
theorem dX9_readFile_104 : decode cX9_readFile 104 = .ok (.iload_n 3, 1) := by decide +kernel
theorem dX9_readFile_105 : decode cX9_readFile 105 = .ok (.ifCond .eq 7, 3) := by decide +kernel
theorem dX9_readFile_108 : decode cX9_readFile 108 = .ok (.iconst 0, 1) := by decide +kernel
theorem dX9_readFile_109 : decode cX9_readFile 109 = .ok (.goto 4, 3) := by decide +kernel
theorem dX9_readFile_112 : decode cX9_readFile 112 = .ok (.iconst 4, 1) := by decide +kernel
theorem dX9_readFile_113 : decode cX9_readFile 113 = .ok (.ireturn, 1) := by decide +kernel
theorem dX9_act_0 : decode cX9_act 0 = .ok (.aload_n 0, 1) := by decide +kernel
theorem dX9_act_1 : decode cX9_act 1 = .ok (.iconst 1, 1) := by decide +kernel
theorem dX9_act_2 : decode cX9_act 2 = .ok (.putfield 190, 3) := by decide +kernel
theorem dX9_act_5 : decode cX9_act 5 = .ok (.iconst 0, 1) := by decide +kernel
theorem dX9_act_6 : decode cX9_act 6 = .ok (.istore_n 2, 1) := by decide +kernel
theorem dX9_act_7 : decode cX9_act 7 = .ok (.iload_n 2, 1) := by decide +kernel
theorem dX9_act_8 : decode cX9_act 8 = .ok (.iconst 4, 1) := by decide +kernel
theorem dX9_act_9 : decode cX9_act 9 = .ok (.if_icmp .ge 16, 3) := by decide +kernel
theorem dX9_act_12 : decode cX9_act 12 = .ok (.aload_n 0, 1) := by decide +kernel
theorem dX9_act_13 : decode cX9_act 13 = .ok (.getfield 117, 3) := by decide +kernel
theorem dX9_act_16 : decode cX9_act 16 = .ok (.iload_n 2, 1) := by decide +kernel
theorem dX9_act_17 : decode cX9_act 17 = .ok (.iconst (-1), 1) := by decide +kernel
theorem dX9_act_18 : decode cX9_act 18 = .ok (.iastore, 1) := by decide +kernel
theorem dX9_act_19 : decode cX9_act 19 = .ok (.iinc 2 1, 3) := by decide +kernel
theorem dX9_act_22 : decode cX9_act 22 = .ok (.goto (-15), 3) := by decide +kernel
theorem dX9_act_25 : decode cX9_act 25 = .ok (.aload_n 0, 1) := by decide +kernel
theorem dX9_act_26 : decode cX9_act 26 = .ok (.getfield 7, 3) := by decide +kernel
theorem dX9_act_29 : decode cX9_act 29 = .ok (.iload_n 1, 1) := by decide +kernel
theorem dX9_act_30 : decode cX9_act 30 = .ok (.iaload, 1) := by decide +kernel
theorem dX9_act_31 : decode cX9_act 31 = .ok (.tableswitch 132 0 9 #[53, 68, 76, 82, 89, 119, 132, 132, 132, 126], 53) := by decide +kernel
theorem dX9_act_84 : decode cX9_act 84 = .ok (.aload_n 0, 1) := by decide +kernel
theorem dX9_act_85 : decode cX9_act 85 = .ok (.iload_n 1, 1) := by decide +kernel
theorem dX9_act_86 : decode cX9_act 86 = .ok (.iconst 0, 1) := by decide +kernel
theorem dX9_act_87 : decode cX9_act 87 = .ok (.invokevirtual 225, 3) := by decide +kernel
theorem dX9_act_90 : decode cX9_act 90 = .ok (.ifCond .eq 7, 3) := by decide +kernel
theorem dX9_act_93 : decode cX9_act 93 = .ok (.iconst 0, 1) := by decide +kernel
theorem dX9_act_94 : decode cX9_act 94 = .ok (.goto 4, 3) := by decide +kernel
theorem dX9_act_97 : decode cX9_act 97 = .ok (.iconst 4, 1) := by decide +kernel
theorem dX9_act_98 : decode cX9_act 98 = .ok (.ireturn, 1) := by decide +kernel
theorem dX9_act_99 : decode cX9_act 99 = .ok (.aload_n 0, 1) := by decide +kernel
theorem dX9_act_100 : decode cX9_act 100 = .ok (.iload_n 1, 1) := by decide +kernel
theorem dX9_act_101 : decode cX9_act 101 = .ok (.iconst 0, 1) := by decide +kernel
theorem dX9_act_102 : decode cX9_act 102 = .ok (.invokevirtual 221, 3) := by decide +kernel
theorem dX9_act_105 : decode cX9_act 105 = .ok (.iconst 0, 1) := by decide +kernel
theorem dX9_act_106 : decode cX9_act 106 = .ok (.ireturn, 1) := by decide +kernel
theorem dX9_act_107 : decode cX9_act 107 = .ok (.aload_n 0, 1) := by decide +kernel
theorem dX9_act_108 : decode cX9_act 108 = .ok (.iload_n 1, 1) := by decide +kernel
theorem dX9_act_109 : decode cX9_act 109 = .ok (.invokevirtual 231, 3) := by decide +kernel
theorem dX9_act_112 : decode cX9_act 112 = .ok (.ireturn, 1) := by decide +kernel
theorem dX9_act_113 : decode cX9_act 113 = .ok (.aload_n 0, 1) := by decide +kernel
theorem dX9_act_114 : decode cX9_act 114 = .ok (.iload_n 1, 1) := by decide +kernel
theorem dX9_act_115 : decode cX9_act 115 = .ok (.iconst 0, 1) := by decide +kernel
theorem dX9_act_116 : decode cX9_act 116 = .ok (.invokevirtual 234, 3) := by decide +kernel
theorem dX9_act_119 : decode cX9_act 119 = .ok (.ireturn, 1) := by decide +kernel
theorem dX9_act_120 : decode cX9_act 120 = .ok (.aload_n 0, 1) := by decide +kernel
theorem dX9_act_121 : decode cX9_act 121 = .ok (.getfield 77, 3) := by decide +kernel
theorem dX9_act_124 : decode cX9_act 124 = .ok (.aload_n 0, 1) := by decide +kernel
theorem dX9_act_125 : decode cX9_act 125 = .ok (.getfield 16, 3) := by decide +kernel
theorem dX9_act_128 : decode cX9_act 128 = .ok (.iload_n 1, 1) := by decide +kernel
theorem dX9_act_129 : decode cX9_act 129 = .ok (.iaload, 1) := by decide +kernel
theorem dX9_act_130 : decode cX9_act 130 = .ok (.baload, 1) := by decide +kernel
theorem dX9_act_131 : decode cX9_act 131 = .ok (.ifCond .eq 5, 3) := by decide +kernel
theorem dX9_act_134 : decode cX9_act 134 = .ok (.iconst 1, 1) := by decide +kernel
theorem dX9_act_135 : decode cX9_act 135 = .ok (.ireturn, 1) := by decide +kernel
theorem dX9_act_136 : decode cX9_act 136 = .ok (.aload_n 0, 1) := by decide +kernel
theorem dX9_act_137 : decode cX9_act 137 = .ok (.getfield 77, 3) := by decide +kernel
theorem dX9_act_140 : decode cX9_act 140 = .ok (.aload_n 0, 1) := by decide +kernel
theorem dX9_act_141 : decode cX9_act 141 = .ok (.getfield 16, 3) := by decide +kernel
theorem dX9_act_144 : decode cX9_act 144 = .ok (.iload_n 1, 1) := by decide +kernel
theorem dX9_act_145 : decode cX9_act 145 = .ok (.iaload, 1) := by decide +kernel
theorem dX9_act_146 : decode cX9_act 146 = .ok (.iconst 1, 1) := by decide +kernel
theorem dX9_act_147 : decode cX9_act 147 = .ok (.bastore, 1) := by decide +kernel
theorem dX9_act_148 : decode cX9_act 148 = .ok (.iconst 0, 1) := by decide +kernel
theorem dX9_act_149 : decode cX9_act 149 = .ok (.ireturn, 1) := by decide +kernel
theorem dX9_act_150 : decode cX9_act 150 = .ok (.aload_n 0, 1) := by decide +kernel
theorem dX9_act_151 : decode cX9_act 151 = .ok (.iload_n 1, 1) := by decide +kernel
theorem dX9_act_152 : decode cX9_act 152 = .ok (.iconst 1, 1) := by decide +kernel
theorem dX9_act_153 : decode cX9_act 153 = .ok (.invokevirtual 234, 3) := by decide +kernel
theorem dX9_act_156 : decode cX9_act 156 = .ok (.ireturn, 1) := by decide +kernel
theorem dX9_act_157 : decode cX9_act 157 = .ok (.aload_n 0, 1) := by decide +kernel
theorem dX9_act_158 : decode cX9_act 158 = .ok (.iload_n 1, 1) := by decide +kernel
theorem dX9_act_159 : decode cX9_act 159 = .ok (.invokevirtual 238, 3) := by decide +kernel
theorem dX9_act_162 : decode cX9_act 162 = .ok (.ireturn, 1) := by decide +kernel
theorem dX9_act_163 : decode cX9_act 163 = .ok (.aload_n 0, 1) := by decide +kernel
theorem dX9_act_164 : decode cX9_act 164 = .ok (.iload_n 1, 1) := by decide +kernel
theorem dX9_act_165 : decode cX9_act 165 = .ok (.invokevirtual 241, 3) := by decide +kernel
theorem dX9_act_168 : decode cX9_act 168 = .ok (.ireturn, 1) := by decide +kernel
theorem dX9_keep_0 : decode cX9_keep 0 = .ok (.aload_n 0, 1) := by decide +kernel
theorem dX9_keep_1 : decode cX9_keep 1 = .ok (.aload_n 0, 1) := by decide +kernel
theorem dX9_keep_2 : decode cX9_keep 2 = .ok (.getfield 160, 3) := by decide +kernel
theorem dX9_keep_5 : decode cX9_keep 5 = .ok (.putfield 244, 3) := by decide +kernel
theorem dX9_keep_8 : decode cX9_keep 8 = .ok (.aload_n 0, 1) := by decide +kernel
theorem dX9_keep_9 : decode cX9_keep 9 = .ok (.aload_n 0, 1) := by decide +kernel
theorem dX9_keep_10 : decode cX9_keep 10 = .ok (.getfield 199, 3) := by decide +kernel
theorem dX9_keep_13 : decode cX9_keep 13 = .ok (.putfield 247, 3) := by decide +kernel
theorem dX9_keep_16 : decode cX9_keep 16 = .ok (.iconst 0, 1) := by decide +kernel
theorem dX9_keep_17 : decode cX9_keep 17 = .ok (.istore_n 1, 1) := by decide +kernel
theorem dX9_keep_18 : decode cX9_keep 18 = .ok (.iload_n 1, 1) := by decide +kernel
theorem dX9_keep_19 : decode cX9_keep 19 = .ok (.aload_n 0, 1) := by decide +kernel
theorem dX9_keep_20 : decode cX9_keep 20 = .ok (.getfield 160, 3) := by decide +kernel
theorem dX9_keep_23 : decode cX9_keep 23 = .ok (.if_icmp .ge 57, 3) := by decide +kernel
theorem dX9_keep_26 : decode cX9_keep 26 = .ok (.aload_n 0, 1) := by decide +kernel
theorem dX9_keep_27 : decode cX9_keep 27 = .ok (.getfield 80, 3) := by decide +kernel
theorem dX9_keep_30 : decode cX9_keep 30 = .ok (.iload_n 1, 1) := by decide +kernel
theorem dX9_keep_31 : decode cX9_keep 31 = .ok (.aload_n 0, 1) := by decide +kernel
theorem dX9_keep_32 : decode cX9_keep 32 = .ok (.getfield 65, 3) := by decide +kernel
theorem dX9_keep_35 : decode cX9_keep 35 = .ok (.iload_n 1, 1) := by decide +kernel
theorem dX9_keep_36 : decode cX9_keep 36 = .ok (.iaload, 1) := by decide +kernel
theorem dX9_keep_37 : decode cX9_keep 37 = .ok (.iastore, 1) := by decide +kernel
theorem dX9_keep_38 : decode cX9_keep 38 = .ok (.aload_n 0, 1) := by decide +kernel
theorem dX9_keep_39 : decode cX9_keep 39 = .ok (.getfield 83, 3) := by decide +kernel
theorem dX9_keep_42 : decode cX9_keep 42 = .ok (.iload_n 1, 1) := by decide +kernel
theorem dX9_keep_43 : decode cX9_keep 43 = .ok (.aload_n 0, 1) := by decide +kernel
theorem dX9_keep_44 : decode cX9_keep 44 = .ok (.getfield 68, 3) := by decide +kernel
theorem dX9_keep_47 : decode cX9_keep 47 = .ok (.iload_n 1, 1) := by decide +kernel
theorem dX9_keep_48 : decode cX9_keep 48 = .ok (.iaload, 1) := by decide +kernel
theorem dX9_keep_49 : decode cX9_keep 49 = .ok (.iastore, 1) := by decide +kernel
theorem dX9_keep_50 : decode cX9_keep 50 = .ok (.aload_n 0, 1) := by decide +kernel
theorem dX9_keep_51 : decode cX9_keep 51 = .ok (.getfield 86, 3) := by decide +kernel
theorem dX9_keep_54 : decode cX9_keep 54 = .ok (.iload_n 1, 1) := by decide +kernel
theorem dX9_keep_55 : decode cX9_keep 55 = .ok (.aload_n 0, 1) := by decide +kernel
theorem dX9_keep_56 : decode cX9_keep 56 = .ok (.getfield 71, 3) := by decide +kernel
theorem dX9_keep_59 : decode cX9_keep 59 = .ok (.iload_n 1, 1) := by decide +kernel
theorem dX9_keep_60 : decode cX9_keep 60 = .ok (.iaload, 1) := by decide +kernel
theorem dX9_keep_61 : decode cX9_keep 61 = .ok (.iastore, 1) := by decide +kernel
theorem dX9_keep_62 : decode cX9_keep 62 = .ok (.aload_n 0, 1) := by decide +kernel
theorem dX9_keep_63 : decode cX9_keep 63 = .ok (.getfield 89, 3) := by decide +kernel
theorem dX9_keep_66 : decode cX9_keep 66 = .ok (.iload_n 1, 1) := by decide +kernel
theorem dX9_keep_67 : decode cX9_keep 67 = .ok (.aload_n 0, 1) := by decide +kernel
theorem dX9_keep_68 : decode cX9_keep 68 = .ok (.getfield 74, 3) := by decide +kernel
theorem dX9_keep_71 : decode cX9_keep 71 = .ok (.iload_n 1, 1) := by decide +kernel
theorem dX9_keep_72 : decode cX9_keep 72 = .ok (.iaload, 1) := by decide +kernel
theorem dX9_keep_73 : decode cX9_keep 73 = .ok (.iastore, 1) := by decide +kernel
theorem dX9_keep_74 : decode cX9_keep 74 = .ok (.iinc 1 1, 3) := by decide +kernel
theorem dX9_keep_77 : decode cX9_keep 77 = .ok (.goto (-59), 3) := by decide +kernel
theorem dX9_keep_80 : decode cX9_keep 80 = .ok (.iconst 0, 1) := by decide +kernel
theorem dX9_keep_81 : decode cX9_keep 81 = .ok (.istore_n 1, 1) := by decide +kernel
theorem dX9_keep_82 : decode cX9_keep 82 = .ok (.iload_n 1, 1) := by decide +kernel
theorem dX9_keep_83 : decode cX9_keep 83 = .ok (.bipush 7, 2) := by decide +kernel
theorem dX9_keep_85 : decode cX9_keep 85 = .ok (.if_icmp .ge 21, 3) := by decide +kernel
theorem dX9_keep_88 : decode cX9_keep 88 = .ok (.aload_n 0, 1) := by decide +kernel
theorem dX9_keep_89 : decode cX9_keep 89 = .ok (.getfield 92, 3) := by decide +kernel
theorem dX9_keep_92 : decode cX9_keep 92 = .ok (.iload_n 1, 1) := by decide +kernel
theorem dX9_keep_93 : decode cX9_keep 93 = .ok (.aload_n 0, 1) := by decide +kernel
theorem dX9_keep_94 : decode cX9_keep 94 = .ok (.getfield 77, 3) := by decide +kernel
theorem dX9_keep_97 : decode cX9_keep 97 = .ok (.iload_n 1, 1) := by decide +kernel
theorem dX9_keep_98 : decode cX9_keep 98 = .ok (.baload, 1) := by decide +kernel
theorem dX9_keep_99 : decode cX9_keep 99 = .ok (.bastore, 1) := by decide +kernel
theorem dX9_keep_100 : decode cX9_keep 100 = .ok (.iinc 1 1, 3) := by decide +kernel
theorem dX9_keep_103 : decode cX9_keep 103 = .ok (.goto (-21), 3) := by decide +kernel
theorem dX9_keep_106 : decode cX9_keep 106 = .ok (.return_, 1) := by decide +kernel
theorem dX9_goBack_0 : decode cX9_goBack 0 = .ok (.aload_n 0, 1) := by decide +kernel
theorem dX9_goBack_1 : decode cX9_goBack 1 = .ok (.aload_n 0, 1) := by decide +kernel
theorem dX9_goBack_2 : decode cX9_goBack 2 = .ok (.getfield 244, 3) := by decide +kernel
theorem dX9_goBack_5 : decode cX9_goBack 5 = .ok (.putfield 160, 3) := by decide +kernel
theorem dX9_goBack_8 : decode cX9_goBack 8 = .ok (.aload_n 0, 1) := by decide +kernel
theorem dX9_goBack_9 : decode cX9_goBack 9 = .ok (.aload_n 0, 1) := by decide +kernel
theorem dX9_goBack_10 : decode cX9_goBack 10 = .ok (.getfield 247, 3) := by decide +kernel
theorem dX9_goBack_13 : decode cX9_goBack 13 = .ok (.putfield 199, 3) := by decide +kernel
theorem dX9_goBack_16 : decode cX9_goBack 16 = .ok (.iconst 0, 1) := by decide +kernel
theorem dX9_goBack_17 : decode cX9_goBack 17 = .ok (.istore_n 1, 1) := by decide +kernel
theorem dX9_goBack_18 : decode cX9_goBack 18 = .ok (.iload_n 1, 1) := by decide +kernel
theorem dX9_goBack_19 : decode cX9_goBack 19 = .ok (.aload_n 0, 1) := by decide +kernel
theorem dX9_goBack_20 : decode cX9_goBack 20 = .ok (.getfield 160, 3) := by decide +kernel
theorem dX9_goBack_23 : decode cX9_goBack 23 = .ok (.if_icmp .ge 57, 3) := by decide +kernel
theorem dX9_goBack_26 : decode cX9_goBack 26 = .ok (.aload_n 0, 1) := by decide +kernel
theorem dX9_goBack_27 : decode cX9_goBack 27 = .ok (.getfield 65, 3) := by decide +kernel
theorem dX9_goBack_30 : decode cX9_goBack 30 = .ok (.iload_n 1, 1) := by decide +kernel
theorem dX9_goBack_31 : decode cX9_goBack 31 = .ok (.aload_n 0, 1) := by decide +kernel
theorem dX9_goBack_32 : decode cX9_goBack 32 = .ok (.getfield 80, 3) := by decide +kernel
theorem dX9_goBack_35 : decode cX9_goBack 35 = .ok (.iload_n 1, 1) := by decide +kernel
theorem dX9_goBack_36 : decode cX9_goBack 36 = .ok (.iaload, 1) := by decide +kernel
theorem dX9_goBack_37 : decode cX9_goBack 37 = .ok (.iastore, 1) := by decide +kernel
theorem dX9_goBack_38 : decode cX9_goBack 38 = .ok (.aload_n 0, 1) := by decide +kernel
theorem dX9_goBack_39 : decode cX9_goBack 39 = .ok (.getfield 68, 3) := by decide +kernel
theorem dX9_goBack_42 : decode cX9_goBack 42 = .ok (.iload_n 1, 1) := by decide +kernel
theorem dX9_goBack_43 : decode cX9_goBack 43 = .ok (.aload_n 0, 1) := by decide +kernel
theorem dX9_goBack_44 : decode cX9_goBack 44 = .ok (.getfield 83, 3) := by decide +kernel
theorem dX9_goBack_47 : decode cX9_goBack 47 = .ok (.iload_n 1, 1) := by decide +kernel
theorem dX9_goBack_48 : decode cX9_goBack 48 = .ok (.iaload, 1) := by decide +kernel
theorem dX9_goBack_49 : decode cX9_goBack 49 = .ok (.iastore, 1) := by decide +kernel
theorem dX9_goBack_50 : decode cX9_goBack 50 = .ok (.aload_n 0, 1) := by decide +kernel
theorem dX9_goBack_51 : decode cX9_goBack 51 = .ok (.getfield 71, 3) := by decide +kernel
theorem dX9_goBack_54 : decode cX9_goBack 54 = .ok (.iload_n 1, 1) := by decide +kernel
theorem dX9_goBack_55 : decode cX9_goBack 55 = .ok (.aload_n 0, 1) := by decide +kernel
theorem dX9_goBack_56 : decode cX9_goBack 56 = .ok (.getfield 86, 3) := by decide +kernel
theorem dX9_goBack_59 : decode cX9_goBack 59 = .ok (.iload_n 1, 1) := by decide +kernel
theorem dX9_goBack_60 : decode cX9_goBack 60 = .ok (.iaload, 1) := by decide +kernel
theorem dX9_goBack_61 : decode cX9_goBack 61 = .ok (.iastore, 1) := by decide +kernel
theorem dX9_goBack_62 : decode cX9_goBack 62 = .ok (.aload_n 0, 1) := by decide +kernel
theorem dX9_goBack_63 : decode cX9_goBack 63 = .ok (.getfield 74, 3) := by decide +kernel
theorem dX9_goBack_66 : decode cX9_goBack 66 = .ok (.iload_n 1, 1) := by decide +kernel
theorem dX9_goBack_67 : decode cX9_goBack 67 = .ok (.aload_n 0, 1) := by decide +kernel
theorem dX9_goBack_68 : decode cX9_goBack 68 = .ok (.getfield 89, 3) := by decide +kernel
theorem dX9_goBack_71 : decode cX9_goBack 71 = .ok (.iload_n 1, 1) := by decide +kernel
theorem dX9_goBack_72 : decode cX9_goBack 72 = .ok (.iaload, 1) := by decide +kernel
theorem dX9_goBack_73 : decode cX9_goBack 73 = .ok (.iastore, 1) := by decide +kernel
theorem dX9_goBack_74 : decode cX9_goBack 74 = .ok (.iinc 1 1, 3) := by decide +kernel
theorem dX9_goBack_77 : decode cX9_goBack 77 = .ok (.goto (-59), 3) := by decide +kernel
theorem dX9_goBack_80 : decode cX9_goBack 80 = .ok (.iconst 0, 1) := by decide +kernel
theorem dX9_goBack_81 : decode cX9_goBack 81 = .ok (.istore_n 1, 1) := by decide +kernel
theorem dX9_goBack_82 : decode cX9_goBack 82 = .ok (.iload_n 1, 1) := by decide +kernel
theorem dX9_goBack_83 : decode cX9_goBack 83 = .ok (.bipush 7, 2) := by decide +kernel
theorem dX9_goBack_85 : decode cX9_goBack 85 = .ok (.if_icmp .ge 21, 3) := by decide +kernel
theorem dX9_goBack_88 : decode cX9_goBack 88 = .ok (.aload_n 0, 1) := by decide +kernel
theorem dX9_goBack_89 : decode cX9_goBack 89 = .ok (.getfield 77, 3) := by decide +kernel
theorem dX9_goBack_92 : decode cX9_goBack 92 = .ok (.iload_n 1, 1) := by decide +kernel
theorem dX9_goBack_93 : decode cX9_goBack 93 = .ok (.aload_n 0, 1) := by decide +kernel
theorem dX9_goBack_94 : decode cX9_goBack 94 = .ok (.getfield 92, 3) := by decide +kernel
theorem dX9_goBack_97 : decode cX9_goBack 97 = .ok (.iload_n 1, 1) := by decide +kernel
theorem dX9_goBack_98 : decode cX9_goBack 98 = .ok (.baload, 1) := by decide +kernel
theorem dX9_goBack_99 : decode cX9_goBack 99 = .ok (.bastore, 1) := by decide +kernel
theorem dX9_goBack_100 : decode cX9_goBack 100 = .ok (.iinc 1 1, 3) := by decide +kernel
theorem dX9_goBack_103 : decode cX9_goBack 103 = .ok (.goto (-21), 3) := by decide +kernel
theorem dX9_goBack_106 : decode cX9_goBack 106 = .ok (.return_, 1) := by decide +kernel
theorem dX9_note_0 : decode cX9_note 0 = .ok (.aload_n 0, 1) := by decide +kernel
theorem dX9_note_1 : decode cX9_note 1 = .ok (.getfield 250, 3) := by decide +kernel
theorem dX9_note_4 : decode cX9_note 4 = .ok (.istore 6, 2) := by decide +kernel
theorem dX9_note_6 : decode cX9_note 6 = .ok (.iload 6, 2) := by decide +kernel
theorem dX9_note_8 : decode cX9_note 8 = .ok (.ifCond .le 105, 3) := by decide +kernel
theorem dX9_note_11 : decode cX9_note 11 = .ok (.aload_n 0, 1) := by decide +kernel
theorem dX9_note_12 : decode cX9_note 12 = .ok (.iload 6, 2) := by decide +kernel
theorem dX9_note_14 : decode cX9_note 14 = .ok (.iconst 1, 1) := by decide +kernel
theorem dX9_note_15 : decode cX9_note 15 = .ok (.isub, 1) := by decide +kernel
theorem dX9_note_16 : decode cX9_note 16 = .ok (.iload_n 1, 1) := by decide +kernel
theorem dX9_note_17 : decode cX9_note 17 = .ok (.iload_n 2, 1) := by decide +kernel
theorem dX9_note_18 : decode cX9_note 18 = .ok (.iload_n 3, 1) := by decide +kernel
theorem dX9_note_19 : decode cX9_note 19 = .ok (.iload 4, 2) := by decide +kernel
theorem dX9_note_21 : decode cX9_note 21 = .ok (.invokevirtual 253, 3) := by decide +kernel
theorem dX9_note_24 : decode cX9_note 24 = .ok (.ifCond .eq 89, 3) := by decide +kernel
theorem dX9_note_27 : decode cX9_note 27 = .ok (.aload_n 0, 1) := by decide +kernel
theorem dX9_note_28 : decode cX9_note 28 = .ok (.getfield 95, 3) := by decide +kernel
theorem dX9_note_31 : decode cX9_note 31 = .ok (.iload 6, 2) := by decide +kernel
end
end
section
theorem dX9_note_33 : decode cX9_note 33 = .ok (.aload_n 0, 1) := by decide +kernel
theorem dX9_note_34 : decode cX9_note 34 = .ok (.getfield 95, 3) := by decide +kernel
theorem dX9_note_37 : decode cX9_note 37 = .ok (.iload 6, 2) := by decide +kernel
theorem dX9_note_39 : decode cX9_note 39 = .ok (.iconst 1, 1) := by decide +kernel
theorem dX9_note_40 : decode cX9_note 40 = .ok (.isub, 1) := by decide +kernel
theorem dX9_note_41 : decode cX9_note 41 = .ok (.iaload, 1) := by decide +kernel
theorem dX9_note_42 : decode cX9_note 42 = .ok (.iastore, 1) := by decide +kernel
theorem dX9_note_43 : decode cX9_note 43 = .ok (.aload_n 0, 1) := by decide +kernel
theorem dX9_note_44 : decode cX9_note 44 = .ok (.getfield 98, 3) := by decide +kernel
theorem dX9_note_47 : decode cX9_note 47 = .ok (.iload 6, 2) := by decide +kernel
theorem dX9_note_49 : decode cX9_note 49 = .ok (.aload_n 0, 1) := by decide +kernel
theorem dX9_note_50 : decode cX9_note 50 = .ok (.getfield 98, 3) := by decide +kernel
theorem dX9_note_53 : decode cX9_note 53 = .ok (.iload 6, 2) := by decide +kernel
theorem dX9_note_55 : decode cX9_note 55 = .ok (.iconst 1, 1) := by decide +kernel
theorem dX9_note_56 : decode cX9_note 56 = .ok (.isub, 1) := by decide +kernel
theorem dX9_note_57 : decode cX9_note 57 = .ok (.iaload, 1) := by decide +kernel
theorem dX9_note_58 : decode cX9_note 58 = .ok (.iastore, 1) := by decide +kernel
theorem dX9_note_59 : decode cX9_note 59 = .ok (.aload_n 0, 1) := by decide +kernel
theorem dX9_note_60 : decode cX9_note 60 = .ok (.getfield 101, 3) := by decide +kernel
theorem dX9_note_63 : decode cX9_note 63 = .ok (.iload 6, 2) := by decide +kernel
theorem dX9_note_65 : decode cX9_note 65 = .ok (.aload_n 0, 1) := by decide +kernel
theorem dX9_note_66 : decode cX9_note 66 = .ok (.getfield 101, 3) := by decide +kernel
theorem dX9_note_69 : decode cX9_note 69 = .ok (.iload 6, 2) := by decide +kernel
theorem dX9_note_71 : decode cX9_note 71 = .ok (.iconst 1, 1) := by decide +kernel
theorem dX9_note_72 : decode cX9_note 72 = .ok (.isub, 1) := by decide +kernel
theorem dX9_note_73 : decode cX9_note 73 = .ok (.iaload, 1) := by decide +kernel
theorem dX9_note_74 : decode cX9_note 74 = .ok (.iastore, 1) := by decide +kernel
theorem dX9_note_75 : decode cX9_note 75 = .ok (.aload_n 0, 1) := by decide +kernel
theorem dX9_note_76 : decode cX9_note 76 = .ok (.getfield 104, 3) := by decide +kernel
theorem dX9_note_79 : decode cX9_note 79 = .ok (.iload 6, 2) := by decide +kernel
theorem dX9_note_81 : decode cX9_note 81 = .ok (.aload_n 0, 1) := by decide +kernel
theorem dX9_note_82 : decode cX9_note 82 = .ok (.getfield 104, 3) := by decide +kernel
theorem dX9_note_85 : decode cX9_note 85 = .ok (.iload 6, 2) := by decide +kernel
theorem dX9_note_87 : decode cX9_note 87 = .ok (.iconst 1, 1) := by decide +kernel
theorem dX9_note_88 : decode cX9_note 88 = .ok (.isub, 1) := by decide +kernel
theorem dX9_note_89 : decode cX9_note 89 = .ok (.iaload, 1) := by decide +kernel
theorem dX9_note_90 : decode cX9_note 90 = .ok (.iastore, 1) := by decide +kernel
theorem dX9_note_91 : decode cX9_note 91 = .ok (.aload_n 0, 1) := by decide +kernel
theorem dX9_note_92 : decode cX9_note 92 = .ok (.getfield 107, 3) := by decide +kernel
theorem dX9_note_95 : decode cX9_note 95 = .ok (.iload 6, 2) := by decide +kernel
theorem dX9_note_97 : decode cX9_note 97 = .ok (.aload_n 0, 1) := by decide +kernel
theorem dX9_note_98 : decode cX9_note 98 = .ok (.getfield 107, 3) := by decide +kernel
theorem dX9_note_101 : decode cX9_note 101 = .ok (.iload 6, 2) := by decide +kernel
theorem dX9_note_103 : decode cX9_note 103 = .ok (.iconst 1, 1) := by decide +kernel
theorem dX9_note_104 : decode cX9_note 104 = .ok (.isub, 1) := by decide +kernel
theorem dX9_note_105 : decode cX9_note 105 = .ok (.baload, 1) := by decide +kernel
theorem dX9_note_106 : decode cX9_note 106 = .ok (.bastore, 1) := by decide +kernel
theorem dX9_note_107 : decode cX9_note 107 = .ok (.iinc 6 (-1), 3) := by decide +kernel
theorem dX9_note_110 : decode cX9_note 110 = .ok (.goto (-104), 3) := by decide +kernel
theorem dX9_note_113 : decode cX9_note 113 = .ok (.aload_n 0, 1) := by decide +kernel
theorem dX9_note_114 : decode cX9_note 114 = .ok (.getfield 95, 3) := by decide +kernel
theorem dX9_note_117 : decode cX9_note 117 = .ok (.iload 6, 2) := by decide +kernel
theorem dX9_note_119 : decode cX9_note 119 = .ok (.iload_n 1, 1) := by decide +kernel
theorem dX9_note_120 : decode cX9_note 120 = .ok (.iastore, 1) := by decide +kernel
theorem dX9_note_121 : decode cX9_note 121 = .ok (.aload_n 0, 1) := by decide +kernel
theorem dX9_note_122 : decode cX9_note 122 = .ok (.getfield 98, 3) := by decide +kernel
theorem dX9_note_125 : decode cX9_note 125 = .ok (.iload 6, 2) := by decide +kernel
theorem dX9_note_127 : decode cX9_note 127 = .ok (.iload_n 2, 1) := by decide +kernel
theorem dX9_note_128 : decode cX9_note 128 = .ok (.iastore, 1) := by decide +kernel
theorem dX9_note_129 : decode cX9_note 129 = .ok (.aload_n 0, 1) := by decide +kernel
theorem dX9_note_130 : decode cX9_note 130 = .ok (.getfield 101, 3) := by decide +kernel
theorem dX9_note_133 : decode cX9_note 133 = .ok (.iload 6, 2) := by decide +kernel
theorem dX9_note_135 : decode cX9_note 135 = .ok (.iload_n 3, 1) := by decide +kernel
theorem dX9_note_136 : decode cX9_note 136 = .ok (.iastore, 1) := by decide +kernel
theorem dX9_note_137 : decode cX9_note 137 = .ok (.aload_n 0, 1) := by decide +kernel
theorem dX9_note_138 : decode cX9_note 138 = .ok (.getfield 104, 3) := by decide +kernel
theorem dX9_note_141 : decode cX9_note 141 = .ok (.iload 6, 2) := by decide +kernel
theorem dX9_note_143 : decode cX9_note 143 = .ok (.iload 4, 2) := by decide +kernel
theorem dX9_note_145 : decode cX9_note 145 = .ok (.iastore, 1) := by decide +kernel
theorem dX9_note_146 : decode cX9_note 146 = .ok (.aload_n 0, 1) := by decide +kernel
theorem dX9_note_147 : decode cX9_note 147 = .ok (.getfield 107, 3) := by decide +kernel
theorem dX9_note_150 : decode cX9_note 150 = .ok (.iload 6, 2) := by decide +kernel
theorem dX9_note_152 : decode cX9_note 152 = .ok (.iload 5, 2) := by decide +kernel
theorem dX9_note_154 : decode cX9_note 154 = .ok (.bastore, 1) := by decide +kernel
theorem dX9_note_155 : decode cX9_note 155 = .ok (.aload_n 0, 1) := by decide +kernel
theorem dX9_note_156 : decode cX9_note 156 = .ok (.dup, 1) := by decide +kernel
theorem dX9_note_157 : decode cX9_note 157 = .ok (.getfield 250, 3) := by decide +kernel
theorem dX9_note_160 : decode cX9_note 160 = .ok (.iconst 1, 1) := by decide +kernel
theorem dX9_note_161 : decode cX9_note 161 = .ok (.iadd, 1) := by decide +kernel
theorem dX9_note_162 : decode cX9_note 162 = .ok (.putfield 250, 3) := by decide +kernel
theorem dX9_note_165 : decode cX9_note 165 = .ok (.return_, 1) := by decide +kernel
theorem dX9_isAfter_0 : decode cX9_isAfter 0 = .ok (.aload_n 0, 1) := by decide +kernel
theorem dX9_isAfter_1 : decode cX9_isAfter 1 = .ok (.getfield 95, 3) := by decide +kernel
theorem dX9_isAfter_4 : decode cX9_isAfter 4 = .ok (.iload_n 1, 1) := by decide +kernel
theorem dX9_isAfter_5 : decode cX9_isAfter 5 = .ok (.iaload, 1) := by decide +kernel
theorem dX9_isAfter_6 : decode cX9_isAfter 6 = .ok (.iload_n 2, 1) := by decide +kernel
theorem dX9_isAfter_7 : decode cX9_isAfter 7 = .ok (.if_icmp .eq 19, 3) := by decide +kernel
theorem dX9_isAfter_10 : decode cX9_isAfter 10 = .ok (.aload_n 0, 1) := by decide +kernel
theorem dX9_isAfter_11 : decode cX9_isAfter 11 = .ok (.getfield 95, 3) := by decide +kernel
theorem dX9_isAfter_14 : decode cX9_isAfter 14 = .ok (.iload_n 1, 1) := by decide +kernel
theorem dX9_isAfter_15 : decode cX9_isAfter 15 = .ok (.iaload, 1) := by decide +kernel
theorem dX9_isAfter_16 : decode cX9_isAfter 16 = .ok (.iload_n 2, 1) := by decide +kernel
theorem dX9_isAfter_17 : decode cX9_isAfter 17 = .ok (.if_icmp .le 7, 3) := by decide +kernel
theorem dX9_isAfter_20 : decode cX9_isAfter 20 = .ok (.iconst 1, 1) := by decide +kernel
theorem dX9_isAfter_21 : decode cX9_isAfter 21 = .ok (.goto 4, 3) := by decide +kernel
theorem dX9_isAfter_24 : decode cX9_isAfter 24 = .ok (.iconst 0, 1) := by decide +kernel
theorem dX9_isAfter_25 : decode cX9_isAfter 25 = .ok (.ireturn, 1) := by decide +kernel
theorem dX9_isAfter_26 : decode cX9_isAfter 26 = .ok (.aload_n 0, 1) := by decide +kernel
theorem dX9_isAfter_27 : decode cX9_isAfter 27 = .ok (.getfield 98, 3) := by decide +kernel
theorem dX9_isAfter_30 : decode cX9_isAfter 30 = .ok (.iload_n 1, 1) := by decide +kernel
theorem dX9_isAfter_31 : decode cX9_isAfter 31 = .ok (.iaload, 1) := by decide +kernel
theorem dX9_isAfter_32 : decode cX9_isAfter 32 = .ok (.iload_n 3, 1) := by decide +kernel
theorem dX9_isAfter_33 : decode cX9_isAfter 33 = .ok (.if_icmp .eq 19, 3) := by decide +kernel
theorem dX9_isAfter_36 : decode cX9_isAfter 36 = .ok (.aload_n 0, 1) := by decide +kernel
theorem dX9_isAfter_37 : decode cX9_isAfter 37 = .ok (.getfield 98, 3) := by decide +kernel
theorem dX9_isAfter_40 : decode cX9_isAfter 40 = .ok (.iload_n 1, 1) := by decide +kernel
theorem dX9_isAfter_41 : decode cX9_isAfter 41 = .ok (.iaload, 1) := by decide +kernel
theorem dX9_isAfter_42 : decode cX9_isAfter 42 = .ok (.iload_n 3, 1) := by decide +kernel
theorem dX9_isAfter_43 : decode cX9_isAfter 43 = .ok (.if_icmp .le 7, 3) := by decide +kernel
theorem dX9_isAfter_46 : decode cX9_isAfter 46 = .ok (.iconst 1, 1) := by decide +kernel
theorem dX9_isAfter_47 : decode cX9_isAfter 47 = .ok (.goto 4, 3) := by decide +kernel
theorem dX9_isAfter_50 : decode cX9_isAfter 50 = .ok (.iconst 0, 1) := by decide +kernel
theorem dX9_isAfter_51 : decode cX9_isAfter 51 = .ok (.ireturn, 1) := by decide +kernel
theorem dX9_isAfter_52 : decode cX9_isAfter 52 = .ok (.aload_n 0, 1) := by decide +kernel
theorem dX9_isAfter_53 : decode cX9_isAfter 53 = .ok (.getfield 101, 3) := by decide +kernel
theorem dX9_isAfter_56 : decode cX9_isAfter 56 = .ok (.iload_n 1, 1) := by decide +kernel
theorem dX9_isAfter_57 : decode cX9_isAfter 57 = .ok (.iaload, 1) := by decide +kernel
theorem dX9_isAfter_58 : decode cX9_isAfter 58 = .ok (.iload 4, 2) := by decide +kernel
theorem dX9_isAfter_60 : decode cX9_isAfter 60 = .ok (.if_icmp .eq 22, 3) := by decide +kernel
theorem dX9_isAfter_63 : decode cX9_isAfter 63 = .ok (.aload_n 0, 1) := by decide +kernel
theorem dX9_isAfter_64 : decode cX9_isAfter 64 = .ok (.getfield 101, 3) := by decide +kernel
theorem dX9_isAfter_67 : decode cX9_isAfter 67 = .ok (.iload_n 1, 1) := by decide +kernel
theorem dX9_isAfter_68 : decode cX9_isAfter 68 = .ok (.iaload, 1) := by decide +kernel
theorem dX9_isAfter_69 : decode cX9_isAfter 69 = .ok (.iload 4, 2) := by decide +kernel
theorem dX9_isAfter_71 : decode cX9_isAfter 71 = .ok (.if_icmp .le 7, 3) := by decide +kernel
theorem dX9_isAfter_74 : decode cX9_isAfter 74 = .ok (.iconst 1, 1) := by decide +kernel
theorem dX9_isAfter_75 : decode cX9_isAfter 75 = .ok (.goto 23, 3) := by decide +kernel
theorem dX9_isAfter_78 : decode cX9_isAfter 78 = .ok (.iconst 0, 1) := by decide +kernel
theorem dX9_isAfter_79 : decode cX9_isAfter 79 = .ok (.goto 19, 3) := by decide +kernel
theorem dX9_isAfter_82 : decode cX9_isAfter 82 = .ok (.aload_n 0, 1) := by decide +kernel
theorem dX9_isAfter_83 : decode cX9_isAfter 83 = .ok (.getfield 104, 3) := by decide +kernel
theorem dX9_isAfter_86 : decode cX9_isAfter 86 = .ok (.iload_n 1, 1) := by decide +kernel
theorem dX9_isAfter_87 : decode cX9_isAfter 87 = .ok (.iaload, 1) := by decide +kernel
theorem dX9_isAfter_88 : decode cX9_isAfter 88 = .ok (.iload 5, 2) := by decide +kernel
theorem dX9_isAfter_90 : decode cX9_isAfter 90 = .ok (.if_icmp .le 7, 3) := by decide +kernel
theorem dX9_isAfter_93 : decode cX9_isAfter 93 = .ok (.iconst 1, 1) := by decide +kernel
theorem dX9_isAfter_94 : decode cX9_isAfter 94 = .ok (.goto 4, 3) := by decide +kernel
theorem dX9_isAfter_97 : decode cX9_isAfter 97 = .ok (.iconst 0, 1) := by decide +kernel
theorem dX9_isAfter_98 : decode cX9_isAfter 98 = .ok (.ireturn, 1) := by decide +kernel
theorem dX9_wasIn_0 : decode cX9_wasIn 0 = .ok (.iconst 0, 1) := by decide +kernel
theorem dX9_wasIn_1 : decode cX9_wasIn 1 = .ok (.istore 5, 2) := by decide +kernel
theorem dX9_wasIn_3 : decode cX9_wasIn 3 = .ok (.iconst 0, 1) := by decide +kernel
theorem dX9_wasIn_4 : decode cX9_wasIn 4 = .ok (.istore 6, 2) := by decide +kernel
theorem dX9_wasIn_6 : decode cX9_wasIn 6 = .ok (.iload 6, 2) := by decide +kernel
theorem dX9_wasIn_8 : decode cX9_wasIn 8 = .ok (.aload_n 0, 1) := by decide +kernel
theorem dX9_wasIn_9 : decode cX9_wasIn 9 = .ok (.getfield 244, 3) := by decide +kernel
theorem dX9_wasIn_12 : decode cX9_wasIn 12 = .ok (.if_icmp .ge 66, 3) := by decide +kernel
theorem dX9_wasIn_15 : decode cX9_wasIn 15 = .ok (.iload 5, 2) := by decide +kernel
theorem dX9_wasIn_17 : decode cX9_wasIn 17 = .ok (.ifCond .ne 48, 3) := by decide +kernel
theorem dX9_wasIn_20 : decode cX9_wasIn 20 = .ok (.aload_n 0, 1) := by decide +kernel
theorem dX9_wasIn_21 : decode cX9_wasIn 21 = .ok (.getfield 80, 3) := by decide +kernel
theorem dX9_wasIn_24 : decode cX9_wasIn 24 = .ok (.iload 6, 2) := by decide +kernel
theorem dX9_wasIn_26 : decode cX9_wasIn 26 = .ok (.iaload, 1) := by decide +kernel
theorem dX9_wasIn_27 : decode cX9_wasIn 27 = .ok (.iload_n 1, 1) := by decide +kernel
theorem dX9_wasIn_28 : decode cX9_wasIn 28 = .ok (.if_icmp .ne 41, 3) := by decide +kernel
theorem dX9_wasIn_31 : decode cX9_wasIn 31 = .ok (.aload_n 0, 1) := by decide +kernel
theorem dX9_wasIn_32 : decode cX9_wasIn 32 = .ok (.getfield 83, 3) := by decide +kernel
theorem dX9_wasIn_35 : decode cX9_wasIn 35 = .ok (.iload 6, 2) := by decide +kernel
theorem dX9_wasIn_37 : decode cX9_wasIn 37 = .ok (.iaload, 1) := by decide +kernel
theorem dX9_wasIn_38 : decode cX9_wasIn 38 = .ok (.iload_n 2, 1) := by decide +kernel
theorem dX9_wasIn_39 : decode cX9_wasIn 39 = .ok (.if_icmp .ne 30, 3) := by decide +kernel
theorem dX9_wasIn_42 : decode cX9_wasIn 42 = .ok (.aload_n 0, 1) := by decide +kernel
theorem dX9_wasIn_43 : decode cX9_wasIn 43 = .ok (.getfield 86, 3) := by decide +kernel
theorem dX9_wasIn_46 : decode cX9_wasIn 46 = .ok (.iload 6, 2) := by decide +kernel
theorem dX9_wasIn_48 : decode cX9_wasIn 48 = .ok (.iaload, 1) := by decide +kernel
theorem dX9_wasIn_49 : decode cX9_wasIn 49 = .ok (.iload_n 3, 1) := by decide +kernel
theorem dX9_wasIn_50 : decode cX9_wasIn 50 = .ok (.if_icmp .ne 19, 3) := by decide +kernel
theorem dX9_wasIn_53 : decode cX9_wasIn 53 = .ok (.aload_n 0, 1) := by decide +kernel
theorem dX9_wasIn_54 : decode cX9_wasIn 54 = .ok (.getfield 89, 3) := by decide +kernel
theorem dX9_wasIn_57 : decode cX9_wasIn 57 = .ok (.iload 6, 2) := by decide +kernel
theorem dX9_wasIn_59 : decode cX9_wasIn 59 = .ok (.iaload, 1) := by decide +kernel
theorem dX9_wasIn_60 : decode cX9_wasIn 60 = .ok (.iload 4, 2) := by decide +kernel
theorem dX9_wasIn_62 : decode cX9_wasIn 62 = .ok (.if_icmp .ne 7, 3) := by decide +kernel
theorem dX9_wasIn_65 : decode cX9_wasIn 65 = .ok (.iconst 1, 1) := by decide +kernel
theorem dX9_wasIn_66 : decode cX9_wasIn 66 = .ok (.goto 4, 3) := by decide +kernel
theorem dX9_wasIn_69 : decode cX9_wasIn 69 = .ok (.iconst 0, 1) := by decide +kernel
theorem dX9_wasIn_70 : decode cX9_wasIn 70 = .ok (.istore 5, 2) := by decide +kernel
theorem dX9_wasIn_72 : decode cX9_wasIn 72 = .ok (.iinc 6 1, 3) := by decide +kernel
theorem dX9_wasIn_75 : decode cX9_wasIn 75 = .ok (.goto (-69), 3) := by decide +kernel
theorem dX9_wasIn_78 : decode cX9_wasIn 78 = .ok (.iload 5, 2) := by decide +kernel
theorem dX9_wasIn_80 : decode cX9_wasIn 80 = .ok (.ireturn, 1) := by decide +kernel
theorem dX9_noteAll_0 : decode cX9_noteAll 0 = .ok (.aload_n 0, 1) := by decide +kernel
theorem dX9_noteAll_1 : decode cX9_noteAll 1 = .ok (.iconst 0, 1) := by decide +kernel
theorem dX9_noteAll_2 : decode cX9_noteAll 2 = .ok (.putfield 250, 3) := by decide +kernel
theorem dX9_noteAll_5 : decode cX9_noteAll 5 = .ok (.iconst 0, 1) := by decide +kernel
theorem dX9_noteAll_6 : decode cX9_noteAll 6 = .ok (.istore_n 1, 1) := by decide +kernel
theorem dX9_noteAll_7 : decode cX9_noteAll 7 = .ok (.iload_n 1, 1) := by decide +kernel
theorem dX9_noteAll_8 : decode cX9_noteAll 8 = .ok (.aload_n 0, 1) := by decide +kernel
theorem dX9_noteAll_9 : decode cX9_noteAll 9 = .ok (.getfield 160, 3) := by decide +kernel
theorem dX9_noteAll_12 : decode cX9_noteAll 12 = .ok (.if_icmp .ge 69, 3) := by decide +kernel
theorem dX9_noteAll_15 : decode cX9_noteAll 15 = .ok (.aload_n 0, 1) := by decide +kernel
theorem dX9_noteAll_16 : decode cX9_noteAll 16 = .ok (.aload_n 0, 1) := by decide +kernel
theorem dX9_noteAll_17 : decode cX9_noteAll 17 = .ok (.getfield 65, 3) := by decide +kernel
theorem dX9_noteAll_20 : decode cX9_noteAll 20 = .ok (.iload_n 1, 1) := by decide +kernel
theorem dX9_noteAll_21 : decode cX9_noteAll 21 = .ok (.iaload, 1) := by decide +kernel
theorem dX9_noteAll_22 : decode cX9_noteAll 22 = .ok (.aload_n 0, 1) := by decide +kernel
theorem dX9_noteAll_23 : decode cX9_noteAll 23 = .ok (.getfield 68, 3) := by decide +kernel
theorem dX9_noteAll_26 : decode cX9_noteAll 26 = .ok (.iload_n 1, 1) := by decide +kernel
theorem dX9_noteAll_27 : decode cX9_noteAll 27 = .ok (.iaload, 1) := by decide +kernel
theorem dX9_noteAll_28 : decode cX9_noteAll 28 = .ok (.aload_n 0, 1) := by decide +kernel
theorem dX9_noteAll_29 : decode cX9_noteAll 29 = .ok (.getfield 71, 3) := by decide +kernel
theorem dX9_noteAll_32 : decode cX9_noteAll 32 = .ok (.iload_n 1, 1) := by decide +kernel
theorem dX9_noteAll_33 : decode cX9_noteAll 33 = .ok (.iaload, 1) := by decide +kernel
theorem dX9_noteAll_34 : decode cX9_noteAll 34 = .ok (.aload_n 0, 1) := by decide +kernel
theorem dX9_noteAll_35 : decode cX9_noteAll 35 = .ok (.getfield 74, 3) := by decide +kernel
theorem dX9_noteAll_38 : decode cX9_noteAll 38 = .ok (.iload_n 1, 1) := by decide +kernel
theorem dX9_noteAll_39 : decode cX9_noteAll 39 = .ok (.iaload, 1) := by decide +kernel
theorem dX9_noteAll_40 : decode cX9_noteAll 40 = .ok (.invokevirtual 257, 3) := by decide +kernel
theorem dX9_noteAll_43 : decode cX9_noteAll 43 = .ok (.ifCond .ne 32, 3) := by decide +kernel
theorem dX9_noteAll_46 : decode cX9_noteAll 46 = .ok (.aload_n 0, 1) := by decide +kernel
theorem dX9_noteAll_47 : decode cX9_noteAll 47 = .ok (.aload_n 0, 1) := by decide +kernel
theorem dX9_noteAll_48 : decode cX9_noteAll 48 = .ok (.getfield 65, 3) := by decide +kernel
theorem dX9_noteAll_51 : decode cX9_noteAll 51 = .ok (.iload_n 1, 1) := by decide +kernel
theorem dX9_noteAll_52 : decode cX9_noteAll 52 = .ok (.iaload, 1) := by decide +kernel
theorem dX9_noteAll_53 : decode cX9_noteAll 53 = .ok (.aload_n 0, 1) := by decide +kernel
theorem dX9_noteAll_54 : decode cX9_noteAll 54 = .ok (.getfield 68, 3) := by decide +kernel
theorem dX9_noteAll_57 : decode cX9_noteAll 57 = .ok (.iload_n 1, 1) := by decide +kernel
theorem dX9_noteAll_58 : decode cX9_noteAll 58 = .ok (.iaload, 1) := by decide +kernel
theorem dX9_noteAll_59 : decode cX9_noteAll 59 = .ok (.aload_n 0, 1) := by decide +kernel
theorem dX9_noteAll_60 : decode cX9_noteAll 60 = .ok (.getfield 71, 3) := by decide +kernel
theorem dX9_noteAll_63 : decode cX9_noteAll 63 = .ok (.iload_n 1, 1) := by decide +kernel
theorem dX9_noteAll_64 : decode cX9_noteAll 64 = .ok (.iaload, 1) := by decide +kernel
theorem dX9_noteAll_65 : decode cX9_noteAll 65 = .ok (.aload_n 0, 1) := by decide +kernel
theorem dX9_noteAll_66 : decode cX9_noteAll 66 = .ok (.getfield 74, 3) := by decide +kernel
theorem dX9_noteAll_69 : decode cX9_noteAll 69 = .ok (.iload_n 1, 1) := by decide +kernel
theorem dX9_noteAll_70 : decode cX9_noteAll 70 = .ok (.iaload, 1) := by decide +kernel
theorem dX9_noteAll_71 : decode cX9_noteAll 71 = .ok (.iconst 1, 1) := by decide +kernel
theorem dX9_noteAll_72 : decode cX9_noteAll 72 = .ok (.invokevirtual 260, 3) := by decide +kernel
theorem dX9_noteAll_75 : decode cX9_noteAll 75 = .ok (.iinc 1 1, 3) := by decide +kernel
theorem dX9_noteAll_78 : decode cX9_noteAll 78 = .ok (.goto (-71), 3) := by decide +kernel
theorem dX9_noteAll_81 : decode cX9_noteAll 81 = .ok (.iconst 0, 1) := by decide +kernel
theorem dX9_noteAll_82 : decode cX9_noteAll 82 = .ok (.istore_n 1, 1) := by decide +kernel
theorem dX9_noteAll_83 : decode cX9_noteAll 83 = .ok (.iload_n 1, 1) := by decide +kernel
theorem dX9_noteAll_84 : decode cX9_noteAll 84 = .ok (.aload_n 0, 1) := by decide +kernel
theorem dX9_noteAll_85 : decode cX9_noteAll 85 = .ok (.getfield 244, 3) := by decide +kernel
theorem dX9_noteAll_88 : decode cX9_noteAll 88 = .ok (.if_icmp .ge 69, 3) := by decide +kernel
theorem dX9_noteAll_91 : decode cX9_noteAll 91 = .ok (.aload_n 0, 1) := by decide +kernel
theorem dX9_noteAll_92 : decode cX9_noteAll 92 = .ok (.aload_n 0, 1) := by decide +kernel
theorem dX9_noteAll_93 : decode cX9_noteAll 93 = .ok (.getfield 80, 3) := by decide +kernel
theorem dX9_noteAll_96 : decode cX9_noteAll 96 = .ok (.iload_n 1, 1) := by decide +kernel
theorem dX9_noteAll_97 : decode cX9_noteAll 97 = .ok (.iaload, 1) := by decide +kernel
theorem dX9_noteAll_98 : decode cX9_noteAll 98 = .ok (.aload_n 0, 1) := by decide +kernel
theorem dX9_noteAll_99 : decode cX9_noteAll 99 = .ok (.getfield 83, 3) := by decide +kernel
theorem dX9_noteAll_102 : decode cX9_noteAll 102 = .ok (.iload_n 1, 1) := by decide +kernel
theorem dX9_noteAll_103 : decode cX9_noteAll 103 = .ok (.iaload, 1) := by decide +kernel
theorem dX9_noteAll_104 : decode cX9_noteAll 104 = .ok (.aload_n 0, 1) := by decide +kernel
theorem dX9_noteAll_105 : decode cX9_noteAll 105 = .ok (.getfield 86, 3) := by decide +kernel
theorem dX9_noteAll_108 : decode cX9_noteAll 108 = .ok (.iload_n 1, 1) := by decide +kernel
theorem dX9_noteAll_109 : decode cX9_noteAll 109 = .ok (.iaload, 1) := by decide +kernel
theorem dX9_noteAll_110 : decode cX9_noteAll 110 = .ok (.aload_n 0, 1) := by decide +kernel
theorem dX9_noteAll_111 : decode cX9_noteAll 111 = .ok (.getfield 89, 3) := by decide +kernel
theorem dX9_noteAll_114 : decode cX9_noteAll 114 = .ok (.iload_n 1, 1) := by decide +kernel
theorem dX9_noteAll_115 : decode cX9_noteAll 115 = .ok (.iaload, 1) := by decide +kernel
theorem dX9_noteAll_116 : decode cX9_noteAll 116 = .ok (.invokevirtual 163, 3) := by decide +kernel
theorem dX9_noteAll_119 : decode cX9_noteAll 119 = .ok (.ifCond .ge 32, 3) := by decide +kernel
theorem dX9_noteAll_122 : decode cX9_noteAll 122 = .ok (.aload_n 0, 1) := by decide +kernel
theorem dX9_noteAll_123 : decode cX9_noteAll 123 = .ok (.aload_n 0, 1) := by decide +kernel
theorem dX9_noteAll_124 : decode cX9_noteAll 124 = .ok (.getfield 80, 3) := by decide +kernel
theorem dX9_noteAll_127 : decode cX9_noteAll 127 = .ok (.iload_n 1, 1) := by decide +kernel
theorem dX9_noteAll_128 : decode cX9_noteAll 128 = .ok (.iaload, 1) := by decide +kernel
theorem dX9_noteAll_129 : decode cX9_noteAll 129 = .ok (.aload_n 0, 1) := by decide +kernel
theorem dX9_noteAll_130 : decode cX9_noteAll 130 = .ok (.getfield 83, 3) := by decide +kernel
theorem dX9_noteAll_133 : decode cX9_noteAll 133 = .ok (.iload_n 1, 1) := by decide +kernel
theorem dX9_noteAll_134 : decode cX9_noteAll 134 = .ok (.iaload, 1) := by decide +kernel
theorem dX9_noteAll_135 : decode cX9_noteAll 135 = .ok (.aload_n 0, 1) := by decide +kernel
theorem dX9_noteAll_136 : decode cX9_noteAll 136 = .ok (.getfield 86, 3) := by decide +kernel
theorem dX9_noteAll_139 : decode cX9_noteAll 139 = .ok (.iload_n 1, 1) := by decide +kernel
theorem dX9_noteAll_140 : decode cX9_noteAll 140 = .ok (.iaload, 1) := by decide +kernel
theorem dX9_noteAll_141 : decode cX9_noteAll 141 = .ok (.aload_n 0, 1) := by decide +kernel
theorem dX9_noteAll_142 : decode cX9_noteAll 142 = .ok (.getfield 89, 3) := by decide +kernel
theorem dX9_noteAll_145 : decode cX9_noteAll 145 = .ok (.iload_n 1, 1) := by decide +kernel
theorem dX9_noteAll_146 : decode cX9_noteAll 146 = .ok (.iaload, 1) := by decide +kernel
theorem dX9_noteAll_147 : decode cX9_noteAll 147 = .ok (.iconst 0, 1) := by decide +kernel
theorem dX9_noteAll_148 : decode cX9_noteAll 148 = .ok (.invokevirtual 260, 3) := by decide +kernel
theorem dX9_noteAll_151 : decode cX9_noteAll 151 = .ok (.iinc 1 1, 3) := by decide +kernel
theorem dX9_noteAll_154 : decode cX9_noteAll 154 = .ok (.goto (-71), 3) := by decide +kernel
theorem dX9_noteAll_157 : decode cX9_noteAll 157 = .ok (.return_, 1) := by decide +kernel
theorem dX9_run_0 : decode cX9_run 0 = .ok (.aload_n 0, 1) := by decide +kernel
theorem dX9_run_1 : decode cX9_run 1 = .ok (.iconst 0, 1) := by decide +kernel
theorem dX9_run_2 : decode cX9_run 2 = .ok (.putfield 129, 3) := by decide +kernel
theorem dX9_run_5 : decode cX9_run 5 = .ok (.aload_n 0, 1) := by decide +kernel
theorem dX9_run_6 : decode cX9_run 6 = .ok (.invokevirtual 264, 3) := by decide +kernel
theorem dX9_run_9 : decode cX9_run 9 = .ok (.aload_n 0, 1) := by decide +kernel
theorem dX9_run_10 : decode cX9_run 10 = .ok (.iconst 0, 1) := by decide +kernel
theorem dX9_run_11 : decode cX9_run 11 = .ok (.putfield 196, 3) := by decide +kernel
theorem dX9_run_14 : decode cX9_run 14 = .ok (.aload_n 0, 1) := by decide +kernel
theorem dX9_run_15 : decode cX9_run 15 = .ok (.iconst (-1), 1) := by decide +kernel
theorem dX9_run_16 : decode cX9_run 16 = .ok (.putfield 113, 3) := by decide +kernel
theorem dX9_run_19 : decode cX9_run 19 = .ok (.iconst 0, 1) := by decide +kernel
theorem dX9_run_20 : decode cX9_run 20 = .ok (.istore_n 1, 1) := by decide +kernel
theorem dX9_run_21 : decode cX9_run 21 = .ok (.iload_n 1, 1) := by decide +kernel
theorem dX9_run_22 : decode cX9_run 22 = .ok (.bipush 12, 2) := by decide +kernel
theorem dX9_run_24 : decode cX9_run 24 = .ok (.if_icmp .ge 16, 3) := by decide +kernel
theorem dX9_run_27 : decode cX9_run 27 = .ok (.aload_n 0, 1) := by decide +kernel
theorem dX9_run_28 : decode cX9_run 28 = .ok (.getfield 110, 3) := by decide +kernel
theorem dX9_run_31 : decode cX9_run 31 = .ok (.iload_n 1, 1) := by decide +kernel
theorem dX9_run_32 : decode cX9_run 32 = .ok (.iconst (-1), 1) := by decide +kernel
theorem dX9_run_33 : decode cX9_run 33 = .ok (.iastore, 1) := by decide +kernel
theorem dX9_run_34 : decode cX9_run 34 = .ok (.iinc 1 1, 3) := by decide +kernel
theorem dX9_run_37 : decode cX9_run 37 = .ok (.goto (-16), 3) := by decide +kernel
theorem dX9_run_40 : decode cX9_run 40 = .ok (.iconst 0, 1) := by decide +kernel
theorem dX9_run_41 : decode cX9_run 41 = .ok (.istore_n 1, 1) := by decide +kernel
theorem dX9_run_42 : decode cX9_run 42 = .ok (.iload_n 1, 1) := by decide +kernel
theorem dX9_run_43 : decode cX9_run 43 = .ok (.aload_n 0, 1) := by decide +kernel
theorem dX9_run_44 : decode cX9_run 44 = .ok (.getfield 132, 3) := by decide +kernel
theorem dX9_run_47 : decode cX9_run 47 = .ok (.if_icmp .ge 51, 3) := by decide +kernel
theorem dX9_run_50 : decode cX9_run 50 = .ok (.aload_n 0, 1) := by decide +kernel
theorem dX9_run_51 : decode cX9_run 51 = .ok (.iload_n 1, 1) := by decide +kernel
theorem dX9_run_52 : decode cX9_run 52 = .ok (.invokevirtual 267, 3) := by decide +kernel
theorem dX9_run_55 : decode cX9_run 55 = .ok (.istore_n 2, 1) := by decide +kernel
theorem dX9_run_56 : decode cX9_run 56 = .ok (.iload_n 2, 1) := by decide +kernel
theorem dX9_run_57 : decode cX9_run 57 = .ok (.ifCond .le 35, 3) := by decide +kernel
theorem dX9_run_60 : decode cX9_run 60 = .ok (.aload_n 0, 1) := by decide +kernel
theorem dX9_run_61 : decode cX9_run 61 = .ok (.getfield 19, 3) := by decide +kernel
theorem dX9_run_64 : decode cX9_run 64 = .ok (.iload_n 1, 1) := by decide +kernel
theorem dX9_run_65 : decode cX9_run 65 = .ok (.baload, 1) := by decide +kernel
theorem dX9_run_66 : decode cX9_run 66 = .ok (.ifCond .eq 8, 3) := by decide +kernel
theorem dX9_run_69 : decode cX9_run 69 = .ok (.iload_n 2, 1) := by decide +kernel
theorem dX9_run_70 : decode cX9_run 70 = .ok (.iconst 4, 1) := by decide +kernel
theorem dX9_run_71 : decode cX9_run 71 = .ok (.if_icmp .lt 21, 3) := by decide +kernel
theorem dX9_run_74 : decode cX9_run 74 = .ok (.aload_n 0, 1) := by decide +kernel
theorem dX9_run_75 : decode cX9_run 75 = .ok (.invokevirtual 270, 3) := by decide +kernel
theorem dX9_run_78 : decode cX9_run 78 = .ok (.aload_n 0, 1) := by decide +kernel
theorem dX9_run_79 : decode cX9_run 79 = .ok (.iload_n 1, 1) := by decide +kernel
theorem dX9_run_80 : decode cX9_run 80 = .ok (.putfield 113, 3) := by decide +kernel
theorem dX9_run_83 : decode cX9_run 83 = .ok (.aload_n 0, 1) := by decide +kernel
theorem dX9_run_84 : decode cX9_run 84 = .ok (.iconst 0, 1) := by decide +kernel
theorem dX9_run_85 : decode cX9_run 85 = .ok (.putfield 196, 3) := by decide +kernel
theorem dX9_run_88 : decode cX9_run 88 = .ok (.iconst (-1), 1) := by decide +kernel
theorem dX9_run_89 : decode cX9_run 89 = .ok (.iload_n 2, 1) := by decide +kernel
theorem dX9_run_90 : decode cX9_run 90 = .ok (.isub, 1) := by decide +kernel
theorem dX9_run_91 : decode cX9_run 91 = .ok (.ireturn, 1) := by decide +kernel
theorem dX9_run_92 : decode cX9_run 92 = .ok (.iinc 1 1, 3) := by decide +kernel
theorem dX9_run_95 : decode cX9_run 95 = .ok (.goto (-53), 3) := by decide +kernel
theorem dX9_run_98 : decode cX9_run 98 = .ok (.aload_n 0, 1) := by decide +kernel
theorem dX9_run_99 : decode cX9_run 99 = .ok (.invokevirtual 273, 3) := by decide +kernel
theorem dX9_run_102 : decode cX9_run 102 = .ok (.aload_n 0, 1) := by decide +kernel
theorem dX9_run_103 : decode cX9_run 103 = .ok (.getfield 250, 3) := by decide +kernel
theorem dX9_run_106 : decode cX9_run 106 = .ok (.ireturn, 1) := by decide +kernel
theorem dX9_fails_0 : decode cX9_fails 0 = .ok (.aload_n 0, 1) := by decide +kernel
theorem dX9_fails_1 : decode cX9_fails 1 = .ok (.iconst 0, 1) := by decide +kernel
theorem dX9_fails_2 : decode cX9_fails 2 = .ok (.putfield 129, 3) := by decide +kernel
theorem dX9_fails_5 : decode cX9_fails 5 = .ok (.aload_n 0, 1) := by decide +kernel
theorem dX9_fails_6 : decode cX9_fails 6 = .ok (.getfield 113, 3) := by decide +kernel
theorem dX9_fails_9 : decode cX9_fails 9 = .ok (.ireturn, 1) := by decide +kernel
theorem dX9_clear_0 : decode cX9_clear 0 = .ok (.aload_n 0, 1) := by decide +kernel
theorem dX9_clear_1 : decode cX9_clear 1 = .ok (.iconst 0, 1) := by decide +kernel
theorem dX9_clear_2 : decode cX9_clear 2 = .ok (.putfield 129, 3) := by decide +kernel
theorem dX9_clear_5 : decode cX9_clear 5 = .ok (.aload_n 0, 1) := by decide +kernel
theorem dX9_clear_6 : decode cX9_clear 6 = .ok (.getfield 132, 3) := by decide +kernel
theorem dX9_clear_9 : decode cX9_clear 9 = .ok (.istore_n 1, 1) := by decide +kernel
theorem dX9_clear_10 : decode cX9_clear 10 = .ok (.aload_n 0, 1) := by decide +kernel
theorem dX9_clear_11 : decode cX9_clear 11 = .ok (.iconst 0, 1) := by decide +kernel
theorem dX9_clear_12 : decode cX9_clear 12 = .ok (.putfield 132, 3) := by decide +kernel
theorem dX9_clear_15 : decode cX9_clear 15 = .ok (.iconst 0, 1) := by decide +kernel
theorem dX9_clear_16 : decode cX9_clear 16 = .ok (.istore_n 2, 1) := by decide +kernel
theorem dX9_clear_17 : decode cX9_clear 17 = .ok (.iload_n 2, 1) := by decide +kernel
theorem dX9_clear_18 : decode cX9_clear 18 = .ok (.bipush 12, 2) := by decide +kernel
theorem dX9_clear_20 : decode cX9_clear 20 = .ok (.if_icmp .ge 16, 3) := by decide +kernel
theorem dX9_clear_23 : decode cX9_clear 23 = .ok (.aload_n 0, 1) := by decide +kernel
theorem dX9_clear_24 : decode cX9_clear 24 = .ok (.getfield 110, 3) := by decide +kernel
theorem dX9_clear_27 : decode cX9_clear 27 = .ok (.iload_n 2, 1) := by decide +kernel
theorem dX9_clear_28 : decode cX9_clear 28 = .ok (.iconst (-1), 1) := by decide +kernel
theorem dX9_clear_29 : decode cX9_clear 29 = .ok (.iastore, 1) := by decide +kernel
theorem dX9_clear_30 : decode cX9_clear 30 = .ok (.iinc 2 1, 3) := by decide +kernel
theorem dX9_clear_33 : decode cX9_clear 33 = .ok (.goto (-16), 3) := by decide +kernel
theorem dX9_clear_36 : decode cX9_clear 36 = .ok (.iload_n 1, 1) := by decide +kernel
theorem dX9_clear_37 : decode cX9_clear 37 = .ok (.ireturn, 1) := by decide +kernel
theorem dX9_many_0 : decode cX9_many 0 = .ok (.aload_n 0, 1) := by decide +kernel
theorem dX9_many_1 : decode cX9_many 1 = .ok (.iload_n 1, 1) := by decide +kernel
theorem dX9_many_2 : decode cX9_many 2 = .ok (.iconst 0, 1) := by decide +kernel
theorem dX9_many_3 : decode cX9_many 3 = .ok (.bipush 6, 2) := by decide +kernel
theorem dX9_many_5 : decode cX9_many 5 = .ok (.invokestatic 135, 3) := by decide +kernel
theorem dX9_many_8 : decode cX9_many 8 = .ok (.ifCond .eq 7, 3) := by decide +kernel
theorem dX9_many_11 : decode cX9_many 11 = .ok (.iconst 0, 1) := by decide +kernel
theorem dX9_many_12 : decode cX9_many 12 = .ok (.goto 4, 3) := by decide +kernel
theorem dX9_many_15 : decode cX9_many 15 = .ok (.iconst 1, 1) := by decide +kernel
theorem dX9_many_16 : decode cX9_many 16 = .ok (.putfield 129, 3) := by decide +kernel
theorem dX9_many_19 : decode cX9_many 19 = .ok (.aload_n 0, 1) := by decide +kernel
theorem dX9_many_20 : decode cX9_many 20 = .ok (.getfield 129, 3) := by decide +kernel
theorem dX9_many_23 : decode cX9_many 23 = .ok (.ifCond .gt 12, 3) := by decide +kernel
theorem dX9_many_26 : decode cX9_many 26 = .ok (.aload_n 0, 1) := by decide +kernel
theorem dX9_many_27 : decode cX9_many 27 = .ok (.getfield 77, 3) := by decide +kernel
theorem dX9_many_30 : decode cX9_many 30 = .ok (.iload_n 1, 1) := by decide +kernel
theorem dX9_many_31 : decode cX9_many 31 = .ok (.baload, 1) := by decide +kernel
theorem dX9_many_32 : decode cX9_many 32 = .ok (.ifCond .ne 16, 3) := by decide +kernel
theorem dX9_many_35 : decode cX9_many 35 = .ok (.aload_n 0, 1) := by decide +kernel
theorem dX9_many_36 : decode cX9_many 36 = .ok (.getfield 129, 3) := by decide +kernel
theorem dX9_many_39 : decode cX9_many 39 = .ok (.ifCond .le 7, 3) := by decide +kernel
theorem dX9_many_42 : decode cX9_many 42 = .ok (.iconst 0, 1) := by decide +kernel
theorem dX9_many_43 : decode cX9_many 43 = .ok (.goto 4, 3) := by decide +kernel
theorem dX9_many_46 : decode cX9_many 46 = .ok (.iconst (-1), 1) := by decide +kernel
theorem dX9_many_47 : decode cX9_many 47 = .ok (.ireturn, 1) := by decide +kernel
theorem dX9_many_48 : decode cX9_many 48 = .ok (.aload_n 0, 1) := by decide +kernel
theorem dX9_many_49 : decode cX9_many 49 = .ok (.iload_n 1, 1) := by decide +kernel
theorem dX9_many_50 : decode cX9_many 50 = .ok (.invokevirtual 187, 3) := by decide +kernel
theorem dX9_many_53 : decode cX9_many 53 = .ok (.aload_n 0, 1) := by decide +kernel
theorem dX9_many_54 : decode cX9_many 54 = .ok (.getfield 174, 3) := by decide +kernel
theorem dX9_many_57 : decode cX9_many 57 = .ok (.ireturn, 1) := by decide +kernel
theorem dX9_at_0 : decode cX9_at 0 = .ok (.aload_n 0, 1) := by decide +kernel
theorem dX9_at_1 : decode cX9_at 1 = .ok (.iconst 1, 1) := by decide +kernel
theorem dX9_at_2 : decode cX9_at 2 = .ok (.putfield 129, 3) := by decide +kernel
theorem dX9_at_5 : decode cX9_at 5 = .ok (.iload_n 1, 1) := by decide +kernel
theorem dX9_at_6 : decode cX9_at 6 = .ok (.iconst 0, 1) := by decide +kernel
theorem dX9_at_7 : decode cX9_at 7 = .ok (.bipush 6, 2) := by decide +kernel
theorem dX9_at_9 : decode cX9_at 9 = .ok (.invokestatic 135, 3) := by decide +kernel
theorem dX9_at_12 : decode cX9_at 12 = .ok (.ifCond .eq 42, 3) := by decide +kernel
theorem dX9_at_15 : decode cX9_at 15 = .ok (.aload_n 0, 1) := by decide +kernel
theorem dX9_at_16 : decode cX9_at 16 = .ok (.iload_n 1, 1) := by decide +kernel
theorem dX9_at_17 : decode cX9_at 17 = .ok (.invokevirtual 187, 3) := by decide +kernel
theorem dX9_at_20 : decode cX9_at 20 = .ok (.aload_n 0, 1) := by decide +kernel
theorem dX9_at_21 : decode cX9_at 21 = .ok (.iload_n 2, 1) := by decide +kernel
theorem dX9_at_22 : decode cX9_at 22 = .ok (.ifCond .lt 11, 3) := by decide +kernel
theorem dX9_at_25 : decode cX9_at 25 = .ok (.iload_n 2, 1) := by decide +kernel
theorem dX9_at_26 : decode cX9_at 26 = .ok (.aload_n 0, 1) := by decide +kernel
theorem dX9_at_27 : decode cX9_at 27 = .ok (.getfield 174, 3) := by decide +kernel
theorem dX9_at_30 : decode cX9_at 30 = .ok (.if_icmp .lt 7, 3) := by decide +kernel
theorem dX9_at_33 : decode cX9_at 33 = .ok (.iconst 1, 1) := by decide +kernel
theorem dX9_at_34 : decode cX9_at 34 = .ok (.goto 17, 3) := by decide +kernel
theorem dX9_at_37 : decode cX9_at 37 = .ok (.iload_n 3, 1) := by decide +kernel
theorem dX9_at_38 : decode cX9_at 38 = .ok (.iconst 0, 1) := by decide +kernel
theorem dX9_at_39 : decode cX9_at 39 = .ok (.iconst 2, 1) := by decide +kernel
theorem dX9_at_40 : decode cX9_at 40 = .ok (.invokestatic 135, 3) := by decide +kernel
theorem dX9_at_43 : decode cX9_at 43 = .ok (.ifCond .ne 7, 3) := by decide +kernel
theorem dX9_at_46 : decode cX9_at 46 = .ok (.iconst 2, 1) := by decide +kernel
theorem dX9_at_47 : decode cX9_at 47 = .ok (.goto 4, 3) := by decide +kernel
theorem dX9_at_50 : decode cX9_at 50 = .ok (.iconst 0, 1) := by decide +kernel
theorem dX9_at_51 : decode cX9_at 51 = .ok (.putfield 129, 3) := by decide +kernel
theorem dX9_at_54 : decode cX9_at 54 = .ok (.aload_n 0, 1) := by decide +kernel
theorem dX9_at_55 : decode cX9_at 55 = .ok (.getfield 129, 3) := by decide +kernel
theorem dX9_at_58 : decode cX9_at 58 = .ok (.ifCond .le 5, 3) := by decide +kernel
theorem dX9_at_61 : decode cX9_at 61 = .ok (.iconst 0, 1) := by decide +kernel
theorem dX9_at_62 : decode cX9_at 62 = .ok (.ireturn, 1) := by decide +kernel
theorem dX9_at_63 : decode cX9_at 63 = .ok (.iload_n 3, 1) := by decide +kernel
theorem dX9_at_64 : decode cX9_at 64 = .ok (.ifCond .ne 17, 3) := by decide +kernel
theorem dX9_at_67 : decode cX9_at 67 = .ok (.aload_n 0, 1) := by decide +kernel
theorem dX9_at_68 : decode cX9_at 68 = .ok (.getfield 68, 3) := by decide +kernel
theorem dX9_at_71 : decode cX9_at 71 = .ok (.aload_n 0, 1) := by decide +kernel
theorem dX9_at_72 : decode cX9_at 72 = .ok (.getfield 123, 3) := by decide +kernel
theorem dX9_at_75 : decode cX9_at 75 = .ok (.iload_n 2, 1) := by decide +kernel
theorem dX9_at_76 : decode cX9_at 76 = .ok (.iaload, 1) := by decide +kernel
theorem dX9_at_77 : decode cX9_at 77 = .ok (.iaload, 1) := by decide +kernel
theorem dX9_at_78 : decode cX9_at 78 = .ok (.goto 33, 3) := by decide +kernel
theorem dX9_at_81 : decode cX9_at 81 = .ok (.iload_n 3, 1) := by decide +kernel
theorem dX9_at_82 : decode cX9_at 82 = .ok (.iconst 1, 1) := by decide +kernel
theorem dX9_at_83 : decode cX9_at 83 = .ok (.if_icmp .ne 17, 3) := by decide +kernel
theorem dX9_at_86 : decode cX9_at 86 = .ok (.aload_n 0, 1) := by decide +kernel
theorem dX9_at_87 : decode cX9_at 87 = .ok (.getfield 71, 3) := by decide +kernel
theorem dX9_at_90 : decode cX9_at 90 = .ok (.aload_n 0, 1) := by decide +kernel
theorem dX9_at_91 : decode cX9_at 91 = .ok (.getfield 123, 3) := by decide +kernel
theorem dX9_at_94 : decode cX9_at 94 = .ok (.iload_n 2, 1) := by decide +kernel
theorem dX9_at_95 : decode cX9_at 95 = .ok (.iaload, 1) := by decide +kernel
theorem dX9_at_96 : decode cX9_at 96 = .ok (.iaload, 1) := by decide +kernel
theorem dX9_at_97 : decode cX9_at 97 = .ok (.goto 14, 3) := by decide +kernel
theorem dX9_at_100 : decode cX9_at 100 = .ok (.aload_n 0, 1) := by decide +kernel
theorem dX9_at_101 : decode cX9_at 101 = .ok (.getfield 74, 3) := by decide +kernel
theorem dX9_at_104 : decode cX9_at 104 = .ok (.aload_n 0, 1) := by decide +kernel
theorem dX9_at_105 : decode cX9_at 105 = .ok (.getfield 123, 3) := by decide +kernel
theorem dX9_at_108 : decode cX9_at 108 = .ok (.iload_n 2, 1) := by decide +kernel
theorem dX9_at_109 : decode cX9_at 109 = .ok (.iaload, 1) := by decide +kernel
theorem dX9_at_110 : decode cX9_at 110 = .ok (.iaload, 1) := by decide +kernel
theorem dX9_at_111 : decode cX9_at 111 = .ok (.ireturn, 1) := by decide +kernel
theorem dX9_has_0 : decode cX9_has 0 = .ok (.aload_n 0, 1) := by decide +kernel
theorem dX9_has_1 : decode cX9_has 1 = .ok (.iload_n 1, 1) := by decide +kernel
theorem dX9_has_2 : decode cX9_has 2 = .ok (.iconst 0, 1) := by decide +kernel
theorem dX9_has_3 : decode cX9_has 3 = .ok (.bipush 6, 2) := by decide +kernel
theorem dX9_has_5 : decode cX9_has 5 = .ok (.invokestatic 135, 3) := by decide +kernel
theorem dX9_has_8 : decode cX9_has 8 = .ok (.ifCond .eq 7, 3) := by decide +kernel
theorem dX9_has_11 : decode cX9_has 11 = .ok (.iconst 0, 1) := by decide +kernel
theorem dX9_has_12 : decode cX9_has 12 = .ok (.goto 4, 3) := by decide +kernel
theorem dX9_has_15 : decode cX9_has 15 = .ok (.iconst 1, 1) := by decide +kernel
theorem dX9_has_16 : decode cX9_has 16 = .ok (.putfield 129, 3) := by decide +kernel
theorem dX9_has_19 : decode cX9_has 19 = .ok (.aload_n 0, 1) := by decide +kernel
theorem dX9_has_20 : decode cX9_has 20 = .ok (.getfield 129, 3) := by decide +kernel
theorem dX9_has_23 : decode cX9_has 23 = .ok (.ifCond .ne 19, 3) := by decide +kernel
theorem dX9_has_26 : decode cX9_has 26 = .ok (.aload_n 0, 1) := by decide +kernel
theorem dX9_has_27 : decode cX9_has 27 = .ok (.iload_n 1, 1) := by decide +kernel
theorem dX9_has_28 : decode cX9_has 28 = .ok (.iload_n 2, 1) := by decide +kernel
theorem dX9_has_29 : decode cX9_has 29 = .ok (.iload_n 3, 1) := by decide +kernel
theorem dX9_has_30 : decode cX9_has 30 = .ok (.iload 4, 2) := by decide +kernel
theorem dX9_has_32 : decode cX9_has 32 = .ok (.invokevirtual 163, 3) := by decide +kernel
theorem dX9_has_35 : decode cX9_has 35 = .ok (.ifCond .lt 7, 3) := by decide +kernel
theorem dX9_has_38 : decode cX9_has 38 = .ok (.iconst 1, 1) := by decide +kernel
theorem dX9_has_39 : decode cX9_has 39 = .ok (.goto 4, 3) := by decide +kernel
theorem dX9_has_42 : decode cX9_has 42 = .ok (.iconst 0, 1) := by decide +kernel
theorem dX9_has_43 : decode cX9_has 43 = .ok (.ireturn, 1) := by decide +kernel
theorem dX9_changed_0 : decode cX9_changed 0 = .ok (.aload_n 0, 1) := by decide +kernel
theorem dX9_changed_1 : decode cX9_changed 1 = .ok (.iload_n 1, 1) := by decide +kernel
theorem dX9_changed_2 : decode cX9_changed 2 = .ok (.ifCond .lt 11, 3) := by decide +kernel
theorem dX9_changed_5 : decode cX9_changed 5 = .ok (.iload_n 1, 1) := by decide +kernel
theorem dX9_changed_6 : decode cX9_changed 6 = .ok (.aload_n 0, 1) := by decide +kernel
theorem dX9_changed_7 : decode cX9_changed 7 = .ok (.getfield 250, 3) := by decide +kernel
theorem dX9_changed_10 : decode cX9_changed 10 = .ok (.if_icmp .lt 7, 3) := by decide +kernel
theorem dX9_changed_13 : decode cX9_changed 13 = .ok (.iconst 1, 1) := by decide +kernel
theorem dX9_changed_14 : decode cX9_changed 14 = .ok (.goto 17, 3) := by decide +kernel
theorem dX9_changed_17 : decode cX9_changed 17 = .ok (.iload_n 2, 1) := by decide +kernel
theorem dX9_changed_18 : decode cX9_changed 18 = .ok (.iconst 0, 1) := by decide +kernel
theorem dX9_changed_19 : decode cX9_changed 19 = .ok (.iconst 4, 1) := by decide +kernel
theorem dX9_changed_20 : decode cX9_changed 20 = .ok (.invokestatic 135, 3) := by decide +kernel
theorem dX9_changed_23 : decode cX9_changed 23 = .ok (.ifCond .ne 7, 3) := by decide +kernel
theorem dX9_changed_26 : decode cX9_changed 26 = .ok (.iconst 2, 1) := by decide +kernel
theorem dX9_changed_27 : decode cX9_changed 27 = .ok (.goto 4, 3) := by decide +kernel
theorem dX9_changed_30 : decode cX9_changed 30 = .ok (.iconst 0, 1) := by decide +kernel
theorem dX9_changed_31 : decode cX9_changed 31 = .ok (.putfield 129, 3) := by decide +kernel
theorem dX9_changed_34 : decode cX9_changed 34 = .ok (.aload_n 0, 1) := by decide +kernel
theorem dX9_changed_35 : decode cX9_changed 35 = .ok (.getfield 129, 3) := by decide +kernel
theorem dX9_changed_38 : decode cX9_changed 38 = .ok (.ifCond .le 5, 3) := by decide +kernel
theorem dX9_changed_41 : decode cX9_changed 41 = .ok (.iconst 0, 1) := by decide +kernel
theorem dX9_changed_42 : decode cX9_changed 42 = .ok (.ireturn, 1) := by decide +kernel
theorem dX9_changed_43 : decode cX9_changed 43 = .ok (.iload_n 2, 1) := by decide +kernel
theorem dX9_changed_44 : decode cX9_changed 44 = .ok (.tableswitch 60 0 3 #[32, 39, 46, 53], 32) := by decide +kernel
theorem dX9_changed_76 : decode cX9_changed 76 = .ok (.aload_n 0, 1) := by decide +kernel
theorem dX9_changed_77 : decode cX9_changed 77 = .ok (.getfield 95, 3) := by decide +kernel
theorem dX9_changed_80 : decode cX9_changed 80 = .ok (.iload_n 1, 1) := by decide +kernel
theorem dX9_changed_81 : decode cX9_changed 81 = .ok (.iaload, 1) := by decide +kernel
theorem dX9_changed_82 : decode cX9_changed 82 = .ok (.ireturn, 1) := by decide +kernel
theorem dX9_changed_83 : decode cX9_changed 83 = .ok (.aload_n 0, 1) := by decide +kernel
theorem dX9_changed_84 : decode cX9_changed 84 = .ok (.getfield 98, 3) := by decide +kernel
theorem dX9_changed_87 : decode cX9_changed 87 = .ok (.iload_n 1, 1) := by decide +kernel
theorem dX9_changed_88 : decode cX9_changed 88 = .ok (.iaload, 1) := by decide +kernel
theorem dX9_changed_89 : decode cX9_changed 89 = .ok (.ireturn, 1) := by decide +kernel
theorem dX9_changed_90 : decode cX9_changed 90 = .ok (.aload_n 0, 1) := by decide +kernel
theorem dX9_changed_91 : decode cX9_changed 91 = .ok (.getfield 101, 3) := by decide +kernel
theorem dX9_changed_94 : decode cX9_changed 94 = .ok (.iload_n 1, 1) := by decide +kernel
theorem dX9_changed_95 : decode cX9_changed 95 = .ok (.iaload, 1) := by decide +kernel
theorem dX9_changed_96 : decode cX9_changed 96 = .ok (.ireturn, 1) := by decide +kernel
theorem dX9_changed_97 : decode cX9_changed 97 = .ok (.aload_n 0, 1) := by decide +kernel
theorem dX9_changed_98 : decode cX9_changed 98 = .ok (.getfield 104, 3) := by decide +kernel
theorem dX9_changed_101 : decode cX9_changed 101 = .ok (.iload_n 1, 1) := by decide +kernel
theorem dX9_changed_102 : decode cX9_changed 102 = .ok (.iaload, 1) := by decide +kernel
theorem dX9_changed_103 : decode cX9_changed 103 = .ok (.ireturn, 1) := by decide +kernel
theorem dX9_changed_104 : decode cX9_changed 104 = .ok (.aload_n 0, 1) := by decide +kernel
theorem dX9_changed_105 : decode cX9_changed 105 = .ok (.getfield 107, 3) := by decide +kernel
theorem dX9_changed_108 : decode cX9_changed 108 = .ok (.iload_n 1, 1) := by decide +kernel
theorem dX9_changed_109 : decode cX9_changed 109 = .ok (.baload, 1) := by decide +kernel
theorem dX9_changed_110 : decode cX9_changed 110 = .ok (.ifCond .eq 7, 3) := by decide +kernel
theorem dX9_changed_113 : decode cX9_changed 113 = .ok (.iconst 1, 1) := by decide +kernel
theorem dX9_changed_114 : decode cX9_changed 114 = .ok (.goto 4, 3) := by decide +kernel
theorem dX9_changed_117 : decode cX9_changed 117 = .ok (.iconst 0, 1) := by decide +kernel
theorem dX9_changed_118 : decode cX9_changed 118 = .ok (.ireturn, 1) := by decide +kernel
theorem dX9_solutions_0 : decode cX9_solutions 0 = .ok (.aload_n 0, 1) := by decide +kernel
theorem dX9_solutions_1 : decode cX9_solutions 1 = .ok (.aload_n 0, 1) := by decide +kernel
theorem dX9_solutions_2 : decode cX9_solutions 2 = .ok (.iload_n 1, 1) := by decide +kernel
theorem dX9_solutions_3 : decode cX9_solutions 3 = .ok (.invokevirtual 143, 3) := by decide +kernel
theorem dX9_solutions_6 : decode cX9_solutions 6 = .ok (.ifCond .eq 7, 3) := by decide +kernel
theorem dX9_solutions_9 : decode cX9_solutions 9 = .ok (.iconst 0, 1) := by decide +kernel
theorem dX9_solutions_10 : decode cX9_solutions 10 = .ok (.goto 4, 3) := by decide +kernel
theorem dX9_solutions_13 : decode cX9_solutions 13 = .ok (.iconst 1, 1) := by decide +kernel
theorem dX9_solutions_14 : decode cX9_solutions 14 = .ok (.putfield 129, 3) := by decide +kernel
theorem dX9_solutions_17 : decode cX9_solutions 17 = .ok (.aload_n 0, 1) := by decide +kernel
theorem dX9_solutions_18 : decode cX9_solutions 18 = .ok (.getfield 129, 3) := by decide +kernel
theorem dX9_solutions_21 : decode cX9_solutions 21 = .ok (.ifCond .le 7, 3) := by decide +kernel
theorem dX9_solutions_24 : decode cX9_solutions 24 = .ok (.iconst 0, 1) := by decide +kernel
theorem dX9_solutions_25 : decode cX9_solutions 25 = .ok (.goto 9, 3) := by decide +kernel
theorem dX9_solutions_28 : decode cX9_solutions 28 = .ok (.aload_n 0, 1) := by decide +kernel
theorem dX9_solutions_29 : decode cX9_solutions 29 = .ok (.getfield 110, 3) := by decide +kernel
theorem dX9_solutions_32 : decode cX9_solutions 32 = .ok (.iload_n 1, 1) := by decide +kernel
theorem dX9_solutions_33 : decode cX9_solutions 33 = .ok (.iaload, 1) := by decide +kernel
theorem dX9_solutions_34 : decode cX9_solutions 34 = .ok (.ireturn, 1) := by decide +kernel
theorem dX9_told_0 : decode cX9_told 0 = .ok (.aload_n 0, 1) := by decide +kernel
theorem dX9_told_1 : decode cX9_told 1 = .ok (.iload_n 1, 1) := by decide +kernel
theorem dX9_told_2 : decode cX9_told 2 = .ok (.iconst 0, 1) := by decide +kernel
theorem dX9_told_3 : decode cX9_told 3 = .ok (.iconst 4, 1) := by decide +kernel
theorem dX9_told_4 : decode cX9_told 4 = .ok (.invokestatic 135, 3) := by decide +kernel
theorem dX9_told_7 : decode cX9_told 7 = .ok (.ifCond .eq 7, 3) := by decide +kernel
theorem dX9_told_10 : decode cX9_told 10 = .ok (.iconst 0, 1) := by decide +kernel
theorem dX9_told_11 : decode cX9_told 11 = .ok (.goto 4, 3) := by decide +kernel
theorem dX9_told_14 : decode cX9_told 14 = .ok (.iconst 1, 1) := by decide +kernel
theorem dX9_told_15 : decode cX9_told 15 = .ok (.putfield 129, 3) := by decide +kernel
theorem dX9_told_18 : decode cX9_told 18 = .ok (.aload_n 0, 1) := by decide +kernel
theorem dX9_told_19 : decode cX9_told 19 = .ok (.getfield 129, 3) := by decide +kernel
theorem dX9_told_22 : decode cX9_told 22 = .ok (.ifCond .le 5, 3) := by decide +kernel
theorem dX9_told_25 : decode cX9_told 25 = .ok (.iconst 0, 1) := by decide +kernel
theorem dX9_told_26 : decode cX9_told 26 = .ok (.ireturn, 1) := by decide +kernel
theorem dX9_told_27 : decode cX9_told 27 = .ok (.iload_n 1, 1) := by decide +kernel
theorem dX9_told_28 : decode cX9_told 28 = .ok (.ifCond .ne 10, 3) := by decide +kernel
theorem dX9_told_31 : decode cX9_told 31 = .ok (.aload_n 0, 1) := by decide +kernel
theorem dX9_told_32 : decode cX9_told 32 = .ok (.getfield 132, 3) := by decide +kernel
theorem dX9_told_35 : decode cX9_told 35 = .ok (.goto 43, 3) := by decide +kernel
theorem dX9_told_38 : decode cX9_told 38 = .ok (.iload_n 1, 1) := by decide +kernel
theorem dX9_told_39 : decode cX9_told 39 = .ok (.iconst 1, 1) := by decide +kernel
theorem dX9_told_40 : decode cX9_told 40 = .ok (.if_icmp .ne 10, 3) := by decide +kernel
theorem dX9_told_43 : decode cX9_told 43 = .ok (.aload_n 0, 1) := by decide +kernel
theorem dX9_told_44 : decode cX9_told 44 = .ok (.getfield 160, 3) := by decide +kernel
theorem dX9_told_47 : decode cX9_told 47 = .ok (.goto 31, 3) := by decide +kernel
theorem dX9_told_50 : decode cX9_told 50 = .ok (.iload_n 1, 1) := by decide +kernel
theorem dX9_told_51 : decode cX9_told 51 = .ok (.iconst 2, 1) := by decide +kernel
theorem dX9_told_52 : decode cX9_told 52 = .ok (.if_icmp .ne 10, 3) := by decide +kernel
theorem dX9_told_55 : decode cX9_told 55 = .ok (.aload_n 0, 1) := by decide +kernel
theorem dX9_told_56 : decode cX9_told 56 = .ok (.getfield 199, 3) := by decide +kernel
theorem dX9_told_59 : decode cX9_told 59 = .ok (.goto 19, 3) := by decide +kernel
theorem dX9_told_62 : decode cX9_told 62 = .ok (.iload_n 1, 1) := by decide +kernel
theorem dX9_told_63 : decode cX9_told 63 = .ok (.iconst 3, 1) := by decide +kernel
theorem dX9_told_64 : decode cX9_told 64 = .ok (.if_icmp .ne 10, 3) := by decide +kernel
theorem dX9_told_67 : decode cX9_told 67 = .ok (.aload_n 0, 1) := by decide +kernel
theorem dX9_told_68 : decode cX9_told 68 = .ok (.getfield 250, 3) := by decide +kernel
theorem dX9_told_71 : decode cX9_told 71 = .ok (.goto 7, 3) := by decide +kernel
theorem dX9_told_74 : decode cX9_told 74 = .ok (.aload_n 0, 1) := by decide +kernel
theorem dX9_told_75 : decode cX9_told 75 = .ok (.getfield 196, 3) := by decide +kernel
theorem dX9_told_78 : decode cX9_told 78 = .ok (.ireturn, 1) := by decide +kernel
theorem dJ7_fill_53178_0 : decode cJ7_fill_53178 0 = .ok (.iconst 0, 1) := by decide +kernel
theorem dJ7_fill_53178_1 : decode cJ7_fill_53178 1 = .ok (.istore_n 2, 1) := by decide +kernel
theorem dJ7_fill_53178_2 : decode cJ7_fill_53178 2 = .ok (.aload_n 0, 1) := by decide +kernel
theorem dJ7_fill_53178_3 : decode cJ7_fill_53178 3 = .ok (.arraylength, 1) := by decide +kernel
theorem dJ7_fill_53178_4 : decode cJ7_fill_53178 4 = .ok (.istore_n 3, 1) := by decide +kernel
theorem dJ7_fill_53178_5 : decode cJ7_fill_53178 5 = .ok (.iload_n 2, 1) := by decide +kernel
theorem dJ7_fill_53178_6 : decode cJ7_fill_53178 6 = .ok (.iload_n 3, 1) := by decide +kernel
theorem dJ7_fill_53178_7 : decode cJ7_fill_53178 7 = .ok (.if_icmp .ge 13, 3) := by decide +kernel
theorem dJ7_fill_53178_10 : decode cJ7_fill_53178 10 = .ok (.aload_n 0, 1) := by decide +kernel
theorem dJ7_fill_53178_11 : decode cJ7_fill_53178 11 = .ok (.iload_n 2, 1) := by decide +kernel
theorem dJ7_fill_53178_12 : decode cJ7_fill_53178 12 = .ok (.iload_n 1, 1) := by decide +kernel
theorem dJ7_fill_53178_13 : decode cJ7_fill_53178 13 = .ok (.iastore, 1) := by decide +kernel
theorem dJ7_fill_53178_14 : decode cJ7_fill_53178 14 = .ok (.iinc 2 1, 3) := by decide +kernel
theorem dJ7_fill_53178_17 : decode cJ7_fill_53178 17 = .ok (.goto (-12), 3) := by decide +kernel
theorem dJ7_fill_53178_20 : decode cJ7_fill_53178 20 = .ok (.return_, 1) := by decide +kernel
theorem dL_step_0 : decode cL_step 0 = .ok (.aload 4, 2) := by decide +kernel
theorem dL_step_2 : decode cL_step 2 = .ok (.iconst 0, 1) := by decide +kernel
theorem dL_step_3 : decode cL_step 3 = .ok (.aload_n 0, 1) := by decide +kernel
theorem dL_step_4 : decode cL_step 4 = .ok (.iload_n 1, 1) := by decide +kernel
theorem dL_step_5 : decode cL_step 5 = .ok (.iload_n 2, 1) := by decide +kernel
theorem dL_step_6 : decode cL_step 6 = .ok (.iload_n 3, 1) := by decide +kernel
theorem dL_step_7 : decode cL_step 7 = .ok (.invokevirtual 7, 3) := by decide +kernel
theorem dL_step_10 : decode cL_step 10 = .ok (.i2l, 1) := by decide +kernel
theorem dL_step_11 : decode cL_step 11 = .ok (.lastore, 1) := by decide +kernel
theorem dL_step_12 : decode cL_step 12 = .ok (.goto 11, 3) := by decide +kernel
theorem dL_step_15 : decode cL_step 15 = .ok (.astore 5, 2) := by decide +kernel
theorem dL_step_17 : decode cL_step 17 = .ok (.iconst 1, 1) := by decide +kernel
theorem dL_step_18 : decode cL_step 18 = .ok (.ireturn, 1) := by decide +kernel
theorem dL_step_19 : decode cL_step 19 = .ok (.astore 5, 2) := by decide +kernel
theorem dL_step_21 : decode cL_step 21 = .ok (.iconst 2, 1) := by decide +kernel
theorem dL_step_22 : decode cL_step 22 = .ok (.ireturn, 1) := by decide +kernel
theorem dL_step_23 : decode cL_step 23 = .ok (.iconst 0, 1) := by decide +kernel
theorem dL_step_24 : decode cL_step 24 = .ok (.ireturn, 1) := by decide +kernel
theorem dL_silent_0 : decode cL_silent 0 = .ok (.aload_n 3, 1) := by decide +kernel
theorem dL_silent_1 : decode cL_silent 1 = .ok (.iconst 0, 1) := by decide +kernel
theorem dL_silent_2 : decode cL_silent 2 = .ok (.aload_n 0, 1) := by decide +kernel
theorem dL_silent_3 : decode cL_silent 3 = .ok (.iload_n 1, 1) := by decide +kernel
theorem dL_silent_4 : decode cL_silent 4 = .ok (.iload_n 2, 1) := by decide +kernel
theorem dL_silent_5 : decode cL_silent 5 = .ok (.invokevirtual 17, 3) := by decide +kernel
theorem dL_silent_8 : decode cL_silent 8 = .ok (.ifCond .eq 7, 3) := by decide +kernel
theorem dL_silent_11 : decode cL_silent 11 = .ok (.lconst 1, 1) := by decide +kernel
theorem dL_silent_12 : decode cL_silent 12 = .ok (.goto 4, 3) := by decide +kernel
theorem dL_silent_15 : decode cL_silent 15 = .ok (.lconst 0, 1) := by decide +kernel
theorem dL_silent_16 : decode cL_silent 16 = .ok (.lastore, 1) := by decide +kernel
theorem dL_silent_17 : decode cL_silent 17 = .ok (.goto 7, 3) := by decide +kernel
theorem dL_silent_20 : decode cL_silent 20 = .ok (.astore 4, 2) := by decide +kernel
theorem dL_silent_22 : decode cL_silent 22 = .ok (.iconst 1, 1) := by decide +kernel
theorem dL_silent_23 : decode cL_silent 23 = .ok (.ireturn, 1) := by decide +kernel
theorem dL_silent_24 : decode cL_silent 24 = .ok (.iconst 0, 1) := by decide +kernel
theorem dL_silent_25 : decode cL_silent 25 = .ok (.ireturn, 1) := by decide +kernel
theorem dL_template_0 : decode cL_template 0 = .ok (.aload 6, 2) := by decide +kernel
theorem dL_template_2 : decode cL_template 2 = .ok (.iconst 0, 1) := by decide +kernel
theorem dL_template_3 : decode cL_template 3 = .ok (.aload_n 0, 1) := by decide +kernel
theorem dL_template_4 : decode cL_template 4 = .ok (.iload_n 1, 1) := by decide +kernel
theorem dL_template_5 : decode cL_template 5 = .ok (.iload_n 2, 1) := by decide +kernel
theorem dL_template_6 : decode cL_template 6 = .ok (.iload_n 3, 1) := by decide +kernel
theorem dL_template_7 : decode cL_template 7 = .ok (.iload 4, 2) := by decide +kernel
theorem dL_template_9 : decode cL_template 9 = .ok (.iload 5, 2) := by decide +kernel
theorem dL_template_11 : decode cL_template 11 = .ok (.invokevirtual 23, 3) := by decide +kernel
theorem dL_template_14 : decode cL_template 14 = .ok (.i2l, 1) := by decide +kernel
theorem dL_template_15 : decode cL_template 15 = .ok (.lastore, 1) := by decide +kernel
theorem dL_template_16 : decode cL_template 16 = .ok (.goto 15, 3) := by decide +kernel
theorem dL_template_19 : decode cL_template 19 = .ok (.astore 7, 2) := by decide +kernel
theorem dL_template_21 : decode cL_template 21 = .ok (.iconst 1, 1) := by decide +kernel
theorem dL_template_22 : decode cL_template 22 = .ok (.ireturn, 1) := by decide +kernel
theorem dL_template_23 : decode cL_template 23 = .ok (.astore 7, 2) := by decide +kernel
theorem dL_template_25 : decode cL_template 25 = .ok (.iconst 2, 1) := by decide +kernel
theorem dL_template_26 : decode cL_template 26 = .ok (.ireturn, 1) := by decide +kernel
theorem dL_template_27 : decode cL_template 27 = .ok (.astore 7, 2) := by decide +kernel
theorem dL_template_29 : decode cL_template 29 = .ok (.iconst 3, 1) := by decide +kernel
theorem dL_template_30 : decode cL_template 30 = .ok (.ireturn, 1) := by decide +kernel
theorem dL_template_31 : decode cL_template 31 = .ok (.iconst 0, 1) := by decide +kernel
theorem dL_template_32 : decode cL_template 32 = .ok (.ireturn, 1) := by decide +kernel
theorem dL_pattern_0 : decode cL_pattern 0 = .ok (.aload 5, 2) := by decide +kernel
theorem dL_pattern_2 : decode cL_pattern 2 = .ok (.iconst 0, 1) := by decide +kernel
theorem dL_pattern_3 : decode cL_pattern 3 = .ok (.aload_n 0, 1) := by decide +kernel
theorem dL_pattern_4 : decode cL_pattern 4 = .ok (.iload_n 1, 1) := by decide +kernel
theorem dL_pattern_5 : decode cL_pattern 5 = .ok (.iload_n 2, 1) := by decide +kernel
theorem dL_pattern_6 : decode cL_pattern 6 = .ok (.iload_n 3, 1) := by decide +kernel
theorem dL_pattern_7 : decode cL_pattern 7 = .ok (.iload 4, 2) := by decide +kernel
theorem dL_pattern_9 : decode cL_pattern 9 = .ok (.invokevirtual 27, 3) := by decide +kernel
theorem dL_pattern_12 : decode cL_pattern 12 = .ok (.i2l, 1) := by decide +kernel
theorem dL_pattern_13 : decode cL_pattern 13 = .ok (.lastore, 1) := by decide +kernel
theorem dL_pattern_14 : decode cL_pattern 14 = .ok (.goto 15, 3) := by decide +kernel
theorem dL_pattern_17 : decode cL_pattern 17 = .ok (.astore 6, 2) := by decide +kernel
theorem dL_pattern_19 : decode cL_pattern 19 = .ok (.iconst 1, 1) := by decide +kernel
theorem dL_pattern_20 : decode cL_pattern 20 = .ok (.ireturn, 1) := by decide +kernel
theorem dL_pattern_21 : decode cL_pattern 21 = .ok (.astore 6, 2) := by decide +kernel
theorem dL_pattern_23 : decode cL_pattern 23 = .ok (.iconst 2, 1) := by decide +kernel
theorem dL_pattern_24 : decode cL_pattern 24 = .ok (.ireturn, 1) := by decide +kernel
theorem dL_pattern_25 : decode cL_pattern 25 = .ok (.astore 6, 2) := by decide +kernel
theorem dL_pattern_27 : decode cL_pattern 27 = .ok (.iconst 3, 1) := by decide +kernel
theorem dL_pattern_28 : decode cL_pattern 28 = .ok (.ireturn, 1) := by decide +kernel
theorem dL_pattern_29 : decode cL_pattern 29 = .ok (.iconst 0, 1) := by decide +kernel
theorem dL_pattern_30 : decode cL_pattern 30 = .ok (.ireturn, 1) := by decide +kernel
theorem dL_file_0 : decode cL_file 0 = .ok (.aload 5, 2) := by decide +kernel
theorem dL_file_2 : decode cL_file 2 = .ok (.iconst 0, 1) := by decide +kernel
theorem dL_file_3 : decode cL_file 3 = .ok (.aload_n 0, 1) := by decide +kernel
theorem dL_file_4 : decode cL_file 4 = .ok (.iload_n 1, 1) := by decide +kernel
theorem dL_file_5 : decode cL_file 5 = .ok (.iload_n 2, 1) := by decide +kernel
theorem dL_file_6 : decode cL_file 6 = .ok (.iload_n 3, 1) := by decide +kernel
theorem dL_file_7 : decode cL_file 7 = .ok (.iload 4, 2) := by decide +kernel
theorem dL_file_9 : decode cL_file 9 = .ok (.invokevirtual 31, 3) := by decide +kernel
theorem dL_file_12 : decode cL_file 12 = .ok (.i2l, 1) := by decide +kernel
theorem dL_file_13 : decode cL_file 13 = .ok (.lastore, 1) := by decide +kernel
theorem dL_file_14 : decode cL_file 14 = .ok (.goto 15, 3) := by decide +kernel
theorem dL_file_17 : decode cL_file 17 = .ok (.astore 6, 2) := by decide +kernel
theorem dL_file_19 : decode cL_file 19 = .ok (.iconst 1, 1) := by decide +kernel
theorem dL_file_20 : decode cL_file 20 = .ok (.ireturn, 1) := by decide +kernel
theorem dL_file_21 : decode cL_file 21 = .ok (.astore 6, 2) := by decide +kernel
theorem dL_file_23 : decode cL_file 23 = .ok (.iconst 2, 1) := by decide +kernel
theorem dL_file_24 : decode cL_file 24 = .ok (.ireturn, 1) := by decide +kernel
theorem dL_file_25 : decode cL_file 25 = .ok (.astore 6, 2) := by decide +kernel
theorem dL_file_27 : decode cL_file 27 = .ok (.iconst 3, 1) := by decide +kernel
theorem dL_file_28 : decode cL_file 28 = .ok (.ireturn, 1) := by decide +kernel
theorem dL_file_29 : decode cL_file 29 = .ok (.iconst 0, 1) := by decide +kernel
theorem dL_file_30 : decode cL_file 30 = .ok (.ireturn, 1) := by decide +kernel
theorem dL_torn_0 : decode cL_torn 0 = .ok (.aload_n 3, 1) := by decide +kernel
theorem dL_torn_1 : decode cL_torn 1 = .ok (.iconst 0, 1) := by decide +kernel
theorem dL_torn_2 : decode cL_torn 2 = .ok (.aload_n 0, 1) := by decide +kernel
theorem dL_torn_3 : decode cL_torn 3 = .ok (.iload_n 1, 1) := by decide +kernel
theorem dL_torn_4 : decode cL_torn 4 = .ok (.iload_n 2, 1) := by decide +kernel
theorem dL_torn_5 : decode cL_torn 5 = .ok (.invokevirtual 34, 3) := by decide +kernel
theorem dL_torn_8 : decode cL_torn 8 = .ok (.ifCond .eq 7, 3) := by decide +kernel
theorem dL_torn_11 : decode cL_torn 11 = .ok (.lconst 1, 1) := by decide +kernel
theorem dL_torn_12 : decode cL_torn 12 = .ok (.goto 4, 3) := by decide +kernel
theorem dL_torn_15 : decode cL_torn 15 = .ok (.lconst 0, 1) := by decide +kernel
theorem dL_torn_16 : decode cL_torn 16 = .ok (.lastore, 1) := by decide +kernel
theorem dL_torn_17 : decode cL_torn 17 = .ok (.goto 7, 3) := by decide +kernel
theorem dL_torn_20 : decode cL_torn 20 = .ok (.astore 4, 2) := by decide +kernel
theorem dL_torn_22 : decode cL_torn 22 = .ok (.iconst 1, 1) := by decide +kernel
theorem dL_torn_23 : decode cL_torn 23 = .ok (.ireturn, 1) := by decide +kernel
theorem dL_torn_24 : decode cL_torn 24 = .ok (.iconst 0, 1) := by decide +kernel
theorem dL_torn_25 : decode cL_torn 25 = .ok (.ireturn, 1) := by decide +kernel
theorem dL_many_0 : decode cL_many 0 = .ok (.aload_n 2, 1) := by decide +kernel
theorem dL_many_1 : decode cL_many 1 = .ok (.iconst 0, 1) := by decide +kernel
theorem dL_many_2 : decode cL_many 2 = .ok (.aload_n 0, 1) := by decide +kernel
theorem dL_many_3 : decode cL_many 3 = .ok (.iload_n 1, 1) := by decide +kernel
theorem dL_many_4 : decode cL_many 4 = .ok (.invokevirtual 37, 3) := by decide +kernel
theorem dL_many_7 : decode cL_many 7 = .ok (.i2l, 1) := by decide +kernel
theorem dL_many_8 : decode cL_many 8 = .ok (.lastore, 1) := by decide +kernel
theorem dL_many_9 : decode cL_many 9 = .ok (.goto 6, 3) := by decide +kernel
theorem dL_many_12 : decode cL_many 12 = .ok (.astore_n 3, 1) := by decide +kernel
theorem dL_many_13 : decode cL_many 13 = .ok (.iconst 1, 1) := by decide +kernel
theorem dL_many_14 : decode cL_many 14 = .ok (.ireturn, 1) := by decide +kernel
theorem dL_many_15 : decode cL_many 15 = .ok (.iconst 0, 1) := by decide +kernel
theorem dL_many_16 : decode cL_many 16 = .ok (.ireturn, 1) := by decide +kernel
theorem dL_at_0 : decode cL_at 0 = .ok (.aload 4, 2) := by decide +kernel
theorem dL_at_2 : decode cL_at 2 = .ok (.iconst 0, 1) := by decide +kernel
theorem dL_at_3 : decode cL_at 3 = .ok (.aload_n 0, 1) := by decide +kernel
theorem dL_at_4 : decode cL_at 4 = .ok (.iload_n 1, 1) := by decide +kernel
theorem dL_at_5 : decode cL_at 5 = .ok (.iload_n 2, 1) := by decide +kernel
theorem dL_at_6 : decode cL_at 6 = .ok (.iload_n 3, 1) := by decide +kernel
theorem dL_at_7 : decode cL_at 7 = .ok (.invokevirtual 41, 3) := by decide +kernel
theorem dL_at_10 : decode cL_at 10 = .ok (.i2l, 1) := by decide +kernel
theorem dL_at_11 : decode cL_at 11 = .ok (.lastore, 1) := by decide +kernel
theorem dL_at_12 : decode cL_at 12 = .ok (.goto 11, 3) := by decide +kernel
theorem dL_at_15 : decode cL_at 15 = .ok (.astore 5, 2) := by decide +kernel
theorem dL_at_17 : decode cL_at 17 = .ok (.iconst 1, 1) := by decide +kernel
theorem dL_at_18 : decode cL_at 18 = .ok (.ireturn, 1) := by decide +kernel
theorem dL_at_19 : decode cL_at 19 = .ok (.astore 5, 2) := by decide +kernel
theorem dL_at_21 : decode cL_at 21 = .ok (.iconst 2, 1) := by decide +kernel
theorem dL_at_22 : decode cL_at 22 = .ok (.ireturn, 1) := by decide +kernel
theorem dL_at_23 : decode cL_at 23 = .ok (.iconst 0, 1) := by decide +kernel
theorem dL_at_24 : decode cL_at 24 = .ok (.ireturn, 1) := by decide +kernel
theorem dL_has_0 : decode cL_has 0 = .ok (.aload 5, 2) := by decide +kernel
theorem dL_has_2 : decode cL_has 2 = .ok (.iconst 0, 1) := by decide +kernel
theorem dL_has_3 : decode cL_has 3 = .ok (.aload_n 0, 1) := by decide +kernel
theorem dL_has_4 : decode cL_has 4 = .ok (.iload_n 1, 1) := by decide +kernel
theorem dL_has_5 : decode cL_has 5 = .ok (.iload_n 2, 1) := by decide +kernel
theorem dL_has_6 : decode cL_has 6 = .ok (.iload_n 3, 1) := by decide +kernel
theorem dL_has_7 : decode cL_has 7 = .ok (.iload 4, 2) := by decide +kernel
theorem dL_has_9 : decode cL_has 9 = .ok (.invokevirtual 44, 3) := by decide +kernel
theorem dL_has_12 : decode cL_has 12 = .ok (.ifCond .eq 7, 3) := by decide +kernel
theorem dL_has_15 : decode cL_has 15 = .ok (.lconst 1, 1) := by decide +kernel
theorem dL_has_16 : decode cL_has 16 = .ok (.goto 4, 3) := by decide +kernel
theorem dL_has_19 : decode cL_has 19 = .ok (.lconst 0, 1) := by decide +kernel
theorem dL_has_20 : decode cL_has 20 = .ok (.lastore, 1) := by decide +kernel
theorem dL_has_21 : decode cL_has 21 = .ok (.goto 7, 3) := by decide +kernel
theorem dL_has_24 : decode cL_has 24 = .ok (.astore 6, 2) := by decide +kernel
theorem dL_has_26 : decode cL_has 26 = .ok (.iconst 1, 1) := by decide +kernel
theorem dL_has_27 : decode cL_has 27 = .ok (.ireturn, 1) := by decide +kernel
theorem dL_has_28 : decode cL_has 28 = .ok (.iconst 0, 1) := by decide +kernel
theorem dL_has_29 : decode cL_has 29 = .ok (.ireturn, 1) := by decide +kernel
theorem dL_changed_0 : decode cL_changed 0 = .ok (.aload_n 3, 1) := by decide +kernel
theorem dL_changed_1 : decode cL_changed 1 = .ok (.iconst 0, 1) := by decide +kernel
theorem dL_changed_2 : decode cL_changed 2 = .ok (.aload_n 0, 1) := by decide +kernel
theorem dL_changed_3 : decode cL_changed 3 = .ok (.iload_n 1, 1) := by decide +kernel
theorem dL_changed_4 : decode cL_changed 4 = .ok (.iload_n 2, 1) := by decide +kernel
theorem dL_changed_5 : decode cL_changed 5 = .ok (.invokevirtual 48, 3) := by decide +kernel
theorem dL_changed_8 : decode cL_changed 8 = .ok (.i2l, 1) := by decide +kernel
theorem dL_changed_9 : decode cL_changed 9 = .ok (.lastore, 1) := by decide +kernel
theorem dL_changed_10 : decode cL_changed 10 = .ok (.goto 11, 3) := by decide +kernel
theorem dL_changed_13 : decode cL_changed 13 = .ok (.astore 4, 2) := by decide +kernel
theorem dL_changed_15 : decode cL_changed 15 = .ok (.iconst 1, 1) := by decide +kernel
theorem dL_changed_16 : decode cL_changed 16 = .ok (.ireturn, 1) := by decide +kernel
theorem dL_changed_17 : decode cL_changed 17 = .ok (.astore 4, 2) := by decide +kernel
theorem dL_changed_19 : decode cL_changed 19 = .ok (.iconst 2, 1) := by decide +kernel
theorem dL_changed_20 : decode cL_changed 20 = .ok (.ireturn, 1) := by decide +kernel
theorem dL_changed_21 : decode cL_changed 21 = .ok (.iconst 0, 1) := by decide +kernel
theorem dL_changed_22 : decode cL_changed 22 = .ok (.ireturn, 1) := by decide +kernel
theorem dL_solutions_0 : decode cL_solutions 0 = .ok (.aload_n 2, 1) := by decide +kernel
theorem dL_solutions_1 : decode cL_solutions 1 = .ok (.iconst 0, 1) := by decide +kernel
theorem dL_solutions_2 : decode cL_solutions 2 = .ok (.aload_n 0, 1) := by decide +kernel
theorem dL_solutions_3 : decode cL_solutions 3 = .ok (.iload_n 1, 1) := by decide +kernel
theorem dL_solutions_4 : decode cL_solutions 4 = .ok (.invokevirtual 52, 3) := by decide +kernel
theorem dL_solutions_7 : decode cL_solutions 7 = .ok (.i2l, 1) := by decide +kernel
theorem dL_solutions_8 : decode cL_solutions 8 = .ok (.lastore, 1) := by decide +kernel
theorem dL_solutions_9 : decode cL_solutions 9 = .ok (.goto 6, 3) := by decide +kernel
theorem dL_solutions_12 : decode cL_solutions 12 = .ok (.astore_n 3, 1) := by decide +kernel
theorem dL_solutions_13 : decode cL_solutions 13 = .ok (.iconst 1, 1) := by decide +kernel
theorem dL_solutions_14 : decode cL_solutions 14 = .ok (.ireturn, 1) := by decide +kernel
theorem dL_solutions_15 : decode cL_solutions 15 = .ok (.iconst 0, 1) := by decide +kernel
theorem dL_solutions_16 : decode cL_solutions 16 = .ok (.ireturn, 1) := by decide +kernel
theorem dL_told_0 : decode cL_told 0 = .ok (.aload_n 2, 1) := by decide +kernel
theorem dL_told_1 : decode cL_told 1 = .ok (.iconst 0, 1) := by decide +kernel
theorem dL_told_2 : decode cL_told 2 = .ok (.aload_n 0, 1) := by decide +kernel
theorem dL_told_3 : decode cL_told 3 = .ok (.iload_n 1, 1) := by decide +kernel
theorem dL_told_4 : decode cL_told 4 = .ok (.invokevirtual 55, 3) := by decide +kernel
theorem dL_told_7 : decode cL_told 7 = .ok (.i2l, 1) := by decide +kernel
theorem dL_told_8 : decode cL_told 8 = .ok (.lastore, 1) := by decide +kernel
theorem dL_told_9 : decode cL_told 9 = .ok (.goto 6, 3) := by decide +kernel
theorem dL_told_12 : decode cL_told 12 = .ok (.astore_n 3, 1) := by decide +kernel
theorem dL_told_13 : decode cL_told 13 = .ok (.iconst 1, 1) := by decide +kernel
theorem dL_told_14 : decode cL_told 14 = .ok (.ireturn, 1) := by decide +kernel
theorem dL_told_15 : decode cL_told 15 = .ok (.iconst 0, 1) := by decide +kernel
theorem dL_told_16 : decode cL_told 16 = .ok (.ireturn, 1) := by decide +kernel
theorem dL_law_0 : decode cL_law 0 = .ok (.new 8, 3) := by decide +kernel
theorem dL_law_3 : decode cL_law 3 = .ok (.dup, 1) := by decide +kernel
theorem dL_law_4 : decode cL_law 4 = .ok (.invokespecial 58, 3) := by decide +kernel
theorem dL_law_7 : decode cL_law 7 = .ok (.astore_n 1, 1) := by decide +kernel
theorem dL_law_8 : decode cL_law 8 = .ok (.new 59, 3) := by decide +kernel
theorem dL_law_11 : decode cL_law 11 = .ok (.dup, 1) := by decide +kernel
theorem dL_law_12 : decode cL_law 12 = .ok (.invokespecial 61, 3) := by decide +kernel
theorem dL_law_15 : decode cL_law 15 = .ok (.astore_n 2, 1) := by decide +kernel
theorem dL_law_16 : decode cL_law 16 = .ok (.iconst 1, 1) := by decide +kernel
theorem dL_law_17 : decode cL_law 17 = .ok (.newarray .long, 2) := by decide +kernel
theorem dL_law_19 : decode cL_law 19 = .ok (.astore_n 3, 1) := by decide +kernel
theorem dL_law_20 : decode cL_law 20 = .ok (.iconst 0, 1) := by decide +kernel
theorem dL_law_21 : decode cL_law 21 = .ok (.istore 4, 2) := by decide +kernel
theorem dL_law_23 : decode cL_law 23 = .ok (.iload 4, 2) := by decide +kernel
theorem dL_law_25 : decode cL_law 25 = .ok (.aload_n 0, 1) := by decide +kernel
theorem dL_law_26 : decode cL_law 26 = .ok (.arraylength, 1) := by decide +kernel
theorem dL_law_27 : decode cL_law 27 = .ok (.bipush 6, 2) := by decide +kernel
theorem dL_law_29 : decode cL_law 29 = .ok (.isub, 1) := by decide +kernel
theorem dL_law_30 : decode cL_law 30 = .ok (.if_icmp .gt 783, 3) := by decide +kernel
theorem dL_law_33 : decode cL_law 33 = .ok (.aload_n 0, 1) := by decide +kernel
theorem dL_law_34 : decode cL_law 34 = .ok (.iload 4, 2) := by decide +kernel
theorem dL_law_36 : decode cL_law 36 = .ok (.iaload, 1) := by decide +kernel
theorem dL_law_37 : decode cL_law 37 = .ok (.bipush 15, 2) := by decide +kernel
theorem dL_law_39 : decode cL_law 39 = .ok (.iand, 1) := by decide +kernel
theorem dL_law_40 : decode cL_law 40 = .ok (.tableswitch 767 0 14 #[76, 156, 212, 304, 368, 432, 488, 501, 514, 527, 555, 607, 671, 711, 739], 76) := by decide +kernel
theorem dL_law_116 : decode cL_law 116 = .ok (.aload_n 1, 1) := by decide +kernel
theorem dL_law_117 : decode cL_law 117 = .ok (.aload_n 0, 1) := by decide +kernel
theorem dL_law_118 : decode cL_law 118 = .ok (.iload 4, 2) := by decide +kernel
theorem dL_law_120 : decode cL_law 120 = .ok (.iconst 1, 1) := by decide +kernel
theorem dL_law_121 : decode cL_law 121 = .ok (.iadd, 1) := by decide +kernel
theorem dL_law_122 : decode cL_law 122 = .ok (.iaload, 1) := by decide +kernel
theorem dL_law_123 : decode cL_law 123 = .ok (.aload_n 0, 1) := by decide +kernel
theorem dL_law_124 : decode cL_law 124 = .ok (.iload 4, 2) := by decide +kernel
theorem dL_law_126 : decode cL_law 126 = .ok (.iconst 2, 1) := by decide +kernel
theorem dL_law_127 : decode cL_law 127 = .ok (.iadd, 1) := by decide +kernel
theorem dL_law_128 : decode cL_law 128 = .ok (.iaload, 1) := by decide +kernel
theorem dL_law_129 : decode cL_law 129 = .ok (.aload_n 0, 1) := by decide +kernel
theorem dL_law_130 : decode cL_law 130 = .ok (.iload 4, 2) := by decide +kernel
theorem dL_law_132 : decode cL_law 132 = .ok (.iconst 3, 1) := by decide +kernel
theorem dL_law_133 : decode cL_law 133 = .ok (.iadd, 1) := by decide +kernel
theorem dL_law_134 : decode cL_law 134 = .ok (.iaload, 1) := by decide +kernel
theorem dL_law_135 : decode cL_law 135 = .ok (.aload_n 3, 1) := by decide +kernel
theorem dL_law_136 : decode cL_law 136 = .ok (.invokestatic 62, 3) := by decide +kernel
theorem dL_law_139 : decode cL_law 139 = .ok (.istore 5, 2) := by decide +kernel
theorem dL_law_141 : decode cL_law 141 = .ok (.aload_n 2, 1) := by decide +kernel
theorem dL_law_142 : decode cL_law 142 = .ok (.aload_n 0, 1) := by decide +kernel
theorem dL_law_143 : decode cL_law 143 = .ok (.iload 4, 2) := by decide +kernel
theorem dL_law_145 : decode cL_law 145 = .ok (.iconst 1, 1) := by decide +kernel
theorem dL_law_146 : decode cL_law 146 = .ok (.iadd, 1) := by decide +kernel
theorem dL_law_147 : decode cL_law 147 = .ok (.iaload, 1) := by decide +kernel
theorem dL_law_148 : decode cL_law 148 = .ok (.aload_n 0, 1) := by decide +kernel
theorem dL_law_149 : decode cL_law 149 = .ok (.iload 4, 2) := by decide +kernel
theorem dL_law_151 : decode cL_law 151 = .ok (.iconst 2, 1) := by decide +kernel
theorem dL_law_152 : decode cL_law 152 = .ok (.iadd, 1) := by decide +kernel
theorem dL_law_153 : decode cL_law 153 = .ok (.iaload, 1) := by decide +kernel
theorem dL_law_154 : decode cL_law 154 = .ok (.aload_n 0, 1) := by decide +kernel
theorem dL_law_155 : decode cL_law 155 = .ok (.iload 4, 2) := by decide +kernel
theorem dL_law_157 : decode cL_law 157 = .ok (.iconst 3, 1) := by decide +kernel
theorem dL_law_158 : decode cL_law 158 = .ok (.iadd, 1) := by decide +kernel
theorem dL_law_159 : decode cL_law 159 = .ok (.iaload, 1) := by decide +kernel
theorem dL_law_160 : decode cL_law 160 = .ok (.invokevirtual 67, 3) := by decide +kernel
theorem dL_law_163 : decode cL_law 163 = .ok (.istore 6, 2) := by decide +kernel
theorem dL_law_165 : decode cL_law 165 = .ok (.aload_n 2, 1) := by decide +kernel
theorem dL_law_166 : decode cL_law 166 = .ok (.invokevirtual 68, 3) := by decide +kernel
theorem dL_law_169 : decode cL_law 169 = .ok (.iload 5, 2) := by decide +kernel
theorem dL_law_171 : decode cL_law 171 = .ok (.if_icmp .eq 5, 3) := by decide +kernel
theorem dL_law_176 : decode cL_law 176 = .ok (.iload 5, 2) := by decide +kernel
theorem dL_law_178 : decode cL_law 178 = .ok (.ifCond .ne 15, 3) := by decide +kernel
theorem dL_law_181 : decode cL_law 181 = .ok (.aload_n 3, 1) := by decide +kernel
theorem dL_law_182 : decode cL_law 182 = .ok (.iconst 0, 1) := by decide +kernel
theorem dL_law_183 : decode cL_law 183 = .ok (.laload, 1) := by decide +kernel
theorem dL_law_184 : decode cL_law 184 = .ok (.iload 6, 2) := by decide +kernel
theorem dL_law_186 : decode cL_law 186 = .ok (.i2l, 1) := by decide +kernel
theorem dL_law_187 : decode cL_law 187 = .ok (.lcmp, 1) := by decide +kernel
theorem dL_law_188 : decode cL_law 188 = .ok (.ifCond .eq 5, 3) := by decide +kernel
theorem dL_law_193 : decode cL_law 193 = .ok (.goto 614, 3) := by decide +kernel
theorem dL_law_196 : decode cL_law 196 = .ok (.aload_n 1, 1) := by decide +kernel
theorem dL_law_197 : decode cL_law 197 = .ok (.aload_n 0, 1) := by decide +kernel
theorem dL_law_198 : decode cL_law 198 = .ok (.iload 4, 2) := by decide +kernel
theorem dL_law_200 : decode cL_law 200 = .ok (.iconst 1, 1) := by decide +kernel
theorem dL_law_201 : decode cL_law 201 = .ok (.iadd, 1) := by decide +kernel
theorem dL_law_202 : decode cL_law 202 = .ok (.iaload, 1) := by decide +kernel
theorem dL_law_203 : decode cL_law 203 = .ok (.aload_n 0, 1) := by decide +kernel
theorem dL_law_204 : decode cL_law 204 = .ok (.iload 4, 2) := by decide +kernel
theorem dL_law_206 : decode cL_law 206 = .ok (.iconst 2, 1) := by decide +kernel
theorem dL_law_207 : decode cL_law 207 = .ok (.iadd, 1) := by decide +kernel
theorem dL_law_208 : decode cL_law 208 = .ok (.iaload, 1) := by decide +kernel
theorem dL_law_209 : decode cL_law 209 = .ok (.ifCond .eq 7, 3) := by decide +kernel
theorem dL_law_212 : decode cL_law 212 = .ok (.iconst 1, 1) := by decide +kernel
theorem dL_law_213 : decode cL_law 213 = .ok (.goto 4, 3) := by decide +kernel
theorem dL_law_216 : decode cL_law 216 = .ok (.iconst 0, 1) := by decide +kernel
theorem dL_law_217 : decode cL_law 217 = .ok (.aload_n 3, 1) := by decide +kernel
theorem dL_law_218 : decode cL_law 218 = .ok (.invokestatic 72, 3) := by decide +kernel
theorem dL_law_221 : decode cL_law 221 = .ok (.istore 5, 2) := by decide +kernel
theorem dL_law_223 : decode cL_law 223 = .ok (.aload_n 2, 1) := by decide +kernel
theorem dL_law_224 : decode cL_law 224 = .ok (.aload_n 0, 1) := by decide +kernel
theorem dL_law_225 : decode cL_law 225 = .ok (.iload 4, 2) := by decide +kernel
theorem dL_law_227 : decode cL_law 227 = .ok (.iconst 1, 1) := by decide +kernel
theorem dL_law_228 : decode cL_law 228 = .ok (.iadd, 1) := by decide +kernel
theorem dL_law_229 : decode cL_law 229 = .ok (.iaload, 1) := by decide +kernel
theorem dL_law_230 : decode cL_law 230 = .ok (.aload_n 0, 1) := by decide +kernel
theorem dL_law_231 : decode cL_law 231 = .ok (.iload 4, 2) := by decide +kernel
theorem dL_law_233 : decode cL_law 233 = .ok (.iconst 2, 1) := by decide +kernel
theorem dL_law_234 : decode cL_law 234 = .ok (.iadd, 1) := by decide +kernel
theorem dL_law_235 : decode cL_law 235 = .ok (.iaload, 1) := by decide +kernel
theorem dL_law_236 : decode cL_law 236 = .ok (.ifCond .eq 7, 3) := by decide +kernel
theorem dL_law_239 : decode cL_law 239 = .ok (.iconst 1, 1) := by decide +kernel
theorem dL_law_240 : decode cL_law 240 = .ok (.goto 4, 3) := by decide +kernel
theorem dL_law_243 : decode cL_law 243 = .ok (.iconst 0, 1) := by decide +kernel
theorem dL_law_244 : decode cL_law 244 = .ok (.invokevirtual 75, 3) := by decide +kernel
theorem dL_law_247 : decode cL_law 247 = .ok (.istore 6, 2) := by decide +kernel
theorem dL_law_249 : decode cL_law 249 = .ok (.goto 558, 3) := by decide +kernel
theorem dL_law_252 : decode cL_law 252 = .ok (.aload_n 1, 1) := by decide +kernel
theorem dL_law_253 : decode cL_law 253 = .ok (.aload_n 0, 1) := by decide +kernel
theorem dL_law_254 : decode cL_law 254 = .ok (.iload 4, 2) := by decide +kernel
theorem dL_law_256 : decode cL_law 256 = .ok (.iconst 1, 1) := by decide +kernel
theorem dL_law_257 : decode cL_law 257 = .ok (.iadd, 1) := by decide +kernel
theorem dL_law_258 : decode cL_law 258 = .ok (.iaload, 1) := by decide +kernel
theorem dL_law_259 : decode cL_law 259 = .ok (.aload_n 0, 1) := by decide +kernel
theorem dL_law_260 : decode cL_law 260 = .ok (.iload 4, 2) := by decide +kernel
theorem dL_law_262 : decode cL_law 262 = .ok (.iconst 2, 1) := by decide +kernel
theorem dL_law_263 : decode cL_law 263 = .ok (.iadd, 1) := by decide +kernel
theorem dL_law_264 : decode cL_law 264 = .ok (.iaload, 1) := by decide +kernel
theorem dL_law_265 : decode cL_law 265 = .ok (.aload_n 0, 1) := by decide +kernel
theorem dL_law_266 : decode cL_law 266 = .ok (.iload 4, 2) := by decide +kernel
theorem dL_law_268 : decode cL_law 268 = .ok (.iconst 3, 1) := by decide +kernel
theorem dL_law_269 : decode cL_law 269 = .ok (.iadd, 1) := by decide +kernel
theorem dL_law_270 : decode cL_law 270 = .ok (.iaload, 1) := by decide +kernel
theorem dL_law_271 : decode cL_law 271 = .ok (.aload_n 0, 1) := by decide +kernel
theorem dL_law_272 : decode cL_law 272 = .ok (.iload 4, 2) := by decide +kernel
theorem dL_law_274 : decode cL_law 274 = .ok (.iconst 4, 1) := by decide +kernel
theorem dL_law_275 : decode cL_law 275 = .ok (.iadd, 1) := by decide +kernel
theorem dL_law_276 : decode cL_law 276 = .ok (.iaload, 1) := by decide +kernel
theorem dL_law_277 : decode cL_law 277 = .ok (.aload_n 0, 1) := by decide +kernel
theorem dL_law_278 : decode cL_law 278 = .ok (.iload 4, 2) := by decide +kernel
theorem dL_law_280 : decode cL_law 280 = .ok (.iconst 5, 1) := by decide +kernel
theorem dL_law_281 : decode cL_law 281 = .ok (.iadd, 1) := by decide +kernel
theorem dL_law_282 : decode cL_law 282 = .ok (.iaload, 1) := by decide +kernel
theorem dL_law_283 : decode cL_law 283 = .ok (.ifCond .eq 7, 3) := by decide +kernel
theorem dL_law_286 : decode cL_law 286 = .ok (.iconst 1, 1) := by decide +kernel
theorem dL_law_287 : decode cL_law 287 = .ok (.goto 4, 3) := by decide +kernel
theorem dL_law_290 : decode cL_law 290 = .ok (.iconst 0, 1) := by decide +kernel
theorem dL_law_291 : decode cL_law 291 = .ok (.aload_n 3, 1) := by decide +kernel
theorem dL_law_292 : decode cL_law 292 = .ok (.invokestatic 76, 3) := by decide +kernel
theorem dL_law_295 : decode cL_law 295 = .ok (.istore 5, 2) := by decide +kernel
theorem dL_law_297 : decode cL_law 297 = .ok (.aload_n 2, 1) := by decide +kernel
theorem dL_law_298 : decode cL_law 298 = .ok (.aload_n 0, 1) := by decide +kernel
theorem dL_law_299 : decode cL_law 299 = .ok (.iload 4, 2) := by decide +kernel
theorem dL_law_301 : decode cL_law 301 = .ok (.iconst 1, 1) := by decide +kernel
theorem dL_law_302 : decode cL_law 302 = .ok (.iadd, 1) := by decide +kernel
theorem dL_law_303 : decode cL_law 303 = .ok (.iaload, 1) := by decide +kernel
theorem dL_law_304 : decode cL_law 304 = .ok (.aload_n 0, 1) := by decide +kernel
theorem dL_law_305 : decode cL_law 305 = .ok (.iload 4, 2) := by decide +kernel
theorem dL_law_307 : decode cL_law 307 = .ok (.iconst 2, 1) := by decide +kernel
theorem dL_law_308 : decode cL_law 308 = .ok (.iadd, 1) := by decide +kernel
theorem dL_law_309 : decode cL_law 309 = .ok (.iaload, 1) := by decide +kernel
theorem dL_law_310 : decode cL_law 310 = .ok (.aload_n 0, 1) := by decide +kernel
theorem dL_law_311 : decode cL_law 311 = .ok (.iload 4, 2) := by decide +kernel
theorem dL_law_313 : decode cL_law 313 = .ok (.iconst 3, 1) := by decide +kernel
theorem dL_law_314 : decode cL_law 314 = .ok (.iadd, 1) := by decide +kernel
theorem dL_law_315 : decode cL_law 315 = .ok (.iaload, 1) := by decide +kernel
theorem dL_law_316 : decode cL_law 316 = .ok (.aload_n 0, 1) := by decide +kernel
theorem dL_law_317 : decode cL_law 317 = .ok (.iload 4, 2) := by decide +kernel
theorem dL_law_319 : decode cL_law 319 = .ok (.iconst 4, 1) := by decide +kernel
theorem dL_law_320 : decode cL_law 320 = .ok (.iadd, 1) := by decide +kernel
theorem dL_law_321 : decode cL_law 321 = .ok (.iaload, 1) := by decide +kernel
theorem dL_law_322 : decode cL_law 322 = .ok (.aload_n 0, 1) := by decide +kernel
theorem dL_law_323 : decode cL_law 323 = .ok (.iload 4, 2) := by decide +kernel
theorem dL_law_325 : decode cL_law 325 = .ok (.iconst 5, 1) := by decide +kernel
theorem dL_law_326 : decode cL_law 326 = .ok (.iadd, 1) := by decide +kernel
theorem dL_law_327 : decode cL_law 327 = .ok (.iaload, 1) := by decide +kernel
theorem dL_law_328 : decode cL_law 328 = .ok (.ifCond .eq 7, 3) := by decide +kernel
theorem dL_law_331 : decode cL_law 331 = .ok (.iconst 1, 1) := by decide +kernel
theorem dL_law_332 : decode cL_law 332 = .ok (.goto 4, 3) := by decide +kernel
theorem dL_law_335 : decode cL_law 335 = .ok (.iconst 0, 1) := by decide +kernel
theorem dL_law_336 : decode cL_law 336 = .ok (.invokevirtual 79, 3) := by decide +kernel
theorem dL_law_339 : decode cL_law 339 = .ok (.istore 6, 2) := by decide +kernel
theorem dL_law_341 : decode cL_law 341 = .ok (.goto 466, 3) := by decide +kernel
theorem dL_law_344 : decode cL_law 344 = .ok (.aload_n 1, 1) := by decide +kernel
theorem dL_law_345 : decode cL_law 345 = .ok (.aload_n 0, 1) := by decide +kernel
theorem dL_law_346 : decode cL_law 346 = .ok (.iload 4, 2) := by decide +kernel
theorem dL_law_348 : decode cL_law 348 = .ok (.iconst 1, 1) := by decide +kernel
theorem dL_law_349 : decode cL_law 349 = .ok (.iadd, 1) := by decide +kernel
theorem dL_law_350 : decode cL_law 350 = .ok (.iaload, 1) := by decide +kernel
theorem dL_law_351 : decode cL_law 351 = .ok (.aload_n 0, 1) := by decide +kernel
theorem dL_law_352 : decode cL_law 352 = .ok (.iload 4, 2) := by decide +kernel
theorem dL_law_354 : decode cL_law 354 = .ok (.iconst 2, 1) := by decide +kernel
theorem dL_law_355 : decode cL_law 355 = .ok (.iadd, 1) := by decide +kernel
theorem dL_law_356 : decode cL_law 356 = .ok (.iaload, 1) := by decide +kernel
theorem dL_law_357 : decode cL_law 357 = .ok (.aload_n 0, 1) := by decide +kernel
theorem dL_law_358 : decode cL_law 358 = .ok (.iload 4, 2) := by decide +kernel
theorem dL_law_360 : decode cL_law 360 = .ok (.iconst 3, 1) := by decide +kernel
theorem dL_law_361 : decode cL_law 361 = .ok (.iadd, 1) := by decide +kernel
theorem dL_law_362 : decode cL_law 362 = .ok (.iaload, 1) := by decide +kernel
theorem dL_law_363 : decode cL_law 363 = .ok (.aload_n 0, 1) := by decide +kernel
theorem dL_law_364 : decode cL_law 364 = .ok (.iload 4, 2) := by decide +kernel
theorem dL_law_366 : decode cL_law 366 = .ok (.iconst 4, 1) := by decide +kernel
theorem dL_law_367 : decode cL_law 367 = .ok (.iadd, 1) := by decide +kernel
theorem dL_law_368 : decode cL_law 368 = .ok (.iaload, 1) := by decide +kernel
theorem dL_law_369 : decode cL_law 369 = .ok (.aload_n 3, 1) := by decide +kernel
theorem dL_law_370 : decode cL_law 370 = .ok (.invokestatic 80, 3) := by decide +kernel
theorem dL_law_373 : decode cL_law 373 = .ok (.istore 5, 2) := by decide +kernel
theorem dL_law_375 : decode cL_law 375 = .ok (.aload_n 2, 1) := by decide +kernel
theorem dL_law_376 : decode cL_law 376 = .ok (.aload_n 0, 1) := by decide +kernel
theorem dL_law_377 : decode cL_law 377 = .ok (.iload 4, 2) := by decide +kernel
theorem dL_law_379 : decode cL_law 379 = .ok (.iconst 1, 1) := by decide +kernel
theorem dL_law_380 : decode cL_law 380 = .ok (.iadd, 1) := by decide +kernel
theorem dL_law_381 : decode cL_law 381 = .ok (.iaload, 1) := by decide +kernel
theorem dL_law_382 : decode cL_law 382 = .ok (.aload_n 0, 1) := by decide +kernel
theorem dL_law_383 : decode cL_law 383 = .ok (.iload 4, 2) := by decide +kernel
theorem dL_law_385 : decode cL_law 385 = .ok (.iconst 2, 1) := by decide +kernel
theorem dL_law_386 : decode cL_law 386 = .ok (.iadd, 1) := by decide +kernel
theorem dL_law_387 : decode cL_law 387 = .ok (.iaload, 1) := by decide +kernel
theorem dL_law_388 : decode cL_law 388 = .ok (.aload_n 0, 1) := by decide +kernel
theorem dL_law_389 : decode cL_law 389 = .ok (.iload 4, 2) := by decide +kernel
theorem dL_law_391 : decode cL_law 391 = .ok (.iconst 3, 1) := by decide +kernel
theorem dL_law_392 : decode cL_law 392 = .ok (.iadd, 1) := by decide +kernel
theorem dL_law_393 : decode cL_law 393 = .ok (.iaload, 1) := by decide +kernel
theorem dL_law_394 : decode cL_law 394 = .ok (.aload_n 0, 1) := by decide +kernel
theorem dL_law_395 : decode cL_law 395 = .ok (.iload 4, 2) := by decide +kernel
theorem dL_law_397 : decode cL_law 397 = .ok (.iconst 4, 1) := by decide +kernel
theorem dL_law_398 : decode cL_law 398 = .ok (.iadd, 1) := by decide +kernel
theorem dL_law_399 : decode cL_law 399 = .ok (.iaload, 1) := by decide +kernel
theorem dL_law_400 : decode cL_law 400 = .ok (.invokevirtual 83, 3) := by decide +kernel
theorem dL_law_403 : decode cL_law 403 = .ok (.istore 6, 2) := by decide +kernel
theorem dL_law_405 : decode cL_law 405 = .ok (.goto 402, 3) := by decide +kernel
theorem dL_law_408 : decode cL_law 408 = .ok (.aload_n 1, 1) := by decide +kernel
theorem dL_law_409 : decode cL_law 409 = .ok (.aload_n 0, 1) := by decide +kernel
theorem dL_law_410 : decode cL_law 410 = .ok (.iload 4, 2) := by decide +kernel
theorem dL_law_412 : decode cL_law 412 = .ok (.iconst 1, 1) := by decide +kernel
theorem dL_law_413 : decode cL_law 413 = .ok (.iadd, 1) := by decide +kernel
theorem dL_law_414 : decode cL_law 414 = .ok (.iaload, 1) := by decide +kernel
theorem dL_law_415 : decode cL_law 415 = .ok (.aload_n 0, 1) := by decide +kernel
theorem dL_law_416 : decode cL_law 416 = .ok (.iload 4, 2) := by decide +kernel
theorem dL_law_418 : decode cL_law 418 = .ok (.iconst 2, 1) := by decide +kernel
theorem dL_law_419 : decode cL_law 419 = .ok (.iadd, 1) := by decide +kernel
theorem dL_law_420 : decode cL_law 420 = .ok (.iaload, 1) := by decide +kernel
theorem dL_law_421 : decode cL_law 421 = .ok (.aload_n 0, 1) := by decide +kernel
theorem dL_law_422 : decode cL_law 422 = .ok (.iload 4, 2) := by decide +kernel
theorem dL_law_424 : decode cL_law 424 = .ok (.iconst 3, 1) := by decide +kernel
theorem dL_law_425 : decode cL_law 425 = .ok (.iadd, 1) := by decide +kernel
theorem dL_law_426 : decode cL_law 426 = .ok (.iaload, 1) := by decide +kernel
theorem dL_law_427 : decode cL_law 427 = .ok (.aload_n 0, 1) := by decide +kernel
theorem dL_law_428 : decode cL_law 428 = .ok (.iload 4, 2) := by decide +kernel
theorem dL_law_430 : decode cL_law 430 = .ok (.iconst 4, 1) := by decide +kernel
theorem dL_law_431 : decode cL_law 431 = .ok (.iadd, 1) := by decide +kernel
theorem dL_law_432 : decode cL_law 432 = .ok (.iaload, 1) := by decide +kernel
theorem dL_law_433 : decode cL_law 433 = .ok (.aload_n 3, 1) := by decide +kernel
theorem dL_law_434 : decode cL_law 434 = .ok (.invokestatic 84, 3) := by decide +kernel
theorem dL_law_437 : decode cL_law 437 = .ok (.istore 5, 2) := by decide +kernel
theorem dL_law_439 : decode cL_law 439 = .ok (.aload_n 2, 1) := by decide +kernel
theorem dL_law_440 : decode cL_law 440 = .ok (.aload_n 0, 1) := by decide +kernel
theorem dL_law_441 : decode cL_law 441 = .ok (.iload 4, 2) := by decide +kernel
theorem dL_law_443 : decode cL_law 443 = .ok (.iconst 1, 1) := by decide +kernel
theorem dL_law_444 : decode cL_law 444 = .ok (.iadd, 1) := by decide +kernel
theorem dL_law_445 : decode cL_law 445 = .ok (.iaload, 1) := by decide +kernel
theorem dL_law_446 : decode cL_law 446 = .ok (.aload_n 0, 1) := by decide +kernel
theorem dL_law_447 : decode cL_law 447 = .ok (.iload 4, 2) := by decide +kernel
theorem dL_law_449 : decode cL_law 449 = .ok (.iconst 2, 1) := by decide +kernel
theorem dL_law_450 : decode cL_law 450 = .ok (.iadd, 1) := by decide +kernel
theorem dL_law_451 : decode cL_law 451 = .ok (.iaload, 1) := by decide +kernel
theorem dL_law_452 : decode cL_law 452 = .ok (.aload_n 0, 1) := by decide +kernel
theorem dL_law_453 : decode cL_law 453 = .ok (.iload 4, 2) := by decide +kernel
theorem dL_law_455 : decode cL_law 455 = .ok (.iconst 3, 1) := by decide +kernel
theorem dL_law_456 : decode cL_law 456 = .ok (.iadd, 1) := by decide +kernel
theorem dL_law_457 : decode cL_law 457 = .ok (.iaload, 1) := by decide +kernel
theorem dL_law_458 : decode cL_law 458 = .ok (.aload_n 0, 1) := by decide +kernel
theorem dL_law_459 : decode cL_law 459 = .ok (.iload 4, 2) := by decide +kernel
theorem dL_law_461 : decode cL_law 461 = .ok (.iconst 4, 1) := by decide +kernel
theorem dL_law_462 : decode cL_law 462 = .ok (.iadd, 1) := by decide +kernel
theorem dL_law_463 : decode cL_law 463 = .ok (.iaload, 1) := by decide +kernel
theorem dL_law_464 : decode cL_law 464 = .ok (.invokevirtual 86, 3) := by decide +kernel
theorem dL_law_467 : decode cL_law 467 = .ok (.istore 6, 2) := by decide +kernel
theorem dL_law_469 : decode cL_law 469 = .ok (.goto 338, 3) := by decide +kernel
theorem dL_law_472 : decode cL_law 472 = .ok (.aload_n 1, 1) := by decide +kernel
theorem dL_law_473 : decode cL_law 473 = .ok (.aload_n 0, 1) := by decide +kernel
theorem dL_law_474 : decode cL_law 474 = .ok (.iload 4, 2) := by decide +kernel
theorem dL_law_476 : decode cL_law 476 = .ok (.iconst 1, 1) := by decide +kernel
theorem dL_law_477 : decode cL_law 477 = .ok (.iadd, 1) := by decide +kernel
theorem dL_law_478 : decode cL_law 478 = .ok (.iaload, 1) := by decide +kernel
theorem dL_law_479 : decode cL_law 479 = .ok (.aload_n 0, 1) := by decide +kernel
theorem dL_law_480 : decode cL_law 480 = .ok (.iload 4, 2) := by decide +kernel
theorem dL_law_482 : decode cL_law 482 = .ok (.iconst 2, 1) := by decide +kernel
theorem dL_law_483 : decode cL_law 483 = .ok (.iadd, 1) := by decide +kernel
theorem dL_law_484 : decode cL_law 484 = .ok (.iaload, 1) := by decide +kernel
theorem dL_law_485 : decode cL_law 485 = .ok (.ifCond .eq 7, 3) := by decide +kernel
theorem dL_law_488 : decode cL_law 488 = .ok (.iconst 1, 1) := by decide +kernel
theorem dL_law_489 : decode cL_law 489 = .ok (.goto 4, 3) := by decide +kernel
theorem dL_law_492 : decode cL_law 492 = .ok (.iconst 0, 1) := by decide +kernel
theorem dL_law_493 : decode cL_law 493 = .ok (.aload_n 3, 1) := by decide +kernel
theorem dL_law_494 : decode cL_law 494 = .ok (.invokestatic 87, 3) := by decide +kernel
theorem dL_law_497 : decode cL_law 497 = .ok (.istore 5, 2) := by decide +kernel
theorem dL_law_499 : decode cL_law 499 = .ok (.aload_n 2, 1) := by decide +kernel
theorem dL_law_500 : decode cL_law 500 = .ok (.aload_n 0, 1) := by decide +kernel
theorem dL_law_501 : decode cL_law 501 = .ok (.iload 4, 2) := by decide +kernel
theorem dL_law_503 : decode cL_law 503 = .ok (.iconst 1, 1) := by decide +kernel
theorem dL_law_504 : decode cL_law 504 = .ok (.iadd, 1) := by decide +kernel
theorem dL_law_505 : decode cL_law 505 = .ok (.iaload, 1) := by decide +kernel
theorem dL_law_506 : decode cL_law 506 = .ok (.aload_n 0, 1) := by decide +kernel
theorem dL_law_507 : decode cL_law 507 = .ok (.iload 4, 2) := by decide +kernel
theorem dL_law_509 : decode cL_law 509 = .ok (.iconst 2, 1) := by decide +kernel
theorem dL_law_510 : decode cL_law 510 = .ok (.iadd, 1) := by decide +kernel
theorem dL_law_511 : decode cL_law 511 = .ok (.iaload, 1) := by decide +kernel
theorem dL_law_512 : decode cL_law 512 = .ok (.ifCond .eq 7, 3) := by decide +kernel
theorem dL_law_515 : decode cL_law 515 = .ok (.iconst 1, 1) := by decide +kernel
theorem dL_law_516 : decode cL_law 516 = .ok (.goto 4, 3) := by decide +kernel
theorem dL_law_519 : decode cL_law 519 = .ok (.iconst 0, 1) := by decide +kernel
theorem dL_law_520 : decode cL_law 520 = .ok (.invokevirtual 89, 3) := by decide +kernel
theorem dL_law_523 : decode cL_law 523 = .ok (.istore 6, 2) := by decide +kernel
theorem dL_law_525 : decode cL_law 525 = .ok (.goto 282, 3) := by decide +kernel
theorem dL_law_528 : decode cL_law 528 = .ok (.aload_n 1, 1) := by decide +kernel
theorem dL_law_529 : decode cL_law 529 = .ok (.invokevirtual 90, 3) := by decide +kernel
theorem dL_law_532 : decode cL_law 532 = .ok (.pop, 1) := by decide +kernel
theorem dL_law_533 : decode cL_law 533 = .ok (.aload_n 2, 1) := by decide +kernel
theorem dL_law_534 : decode cL_law 534 = .ok (.invokevirtual 93, 3) := by decide +kernel
theorem dL_law_537 : decode cL_law 537 = .ok (.pop, 1) := by decide +kernel
theorem dL_law_538 : decode cL_law 538 = .ok (.goto 269, 3) := by decide +kernel
theorem dL_law_541 : decode cL_law 541 = .ok (.aload_n 1, 1) := by decide +kernel
theorem dL_law_542 : decode cL_law 542 = .ok (.invokevirtual 94, 3) := by decide +kernel
theorem dL_law_545 : decode cL_law 545 = .ok (.pop, 1) := by decide +kernel
theorem dL_law_546 : decode cL_law 546 = .ok (.aload_n 2, 1) := by decide +kernel
theorem dL_law_547 : decode cL_law 547 = .ok (.invokevirtual 97, 3) := by decide +kernel
theorem dL_law_550 : decode cL_law 550 = .ok (.pop, 1) := by decide +kernel
theorem dL_law_551 : decode cL_law 551 = .ok (.goto 256, 3) := by decide +kernel
theorem dL_law_554 : decode cL_law 554 = .ok (.aload_n 1, 1) := by decide +kernel
theorem dL_law_555 : decode cL_law 555 = .ok (.invokevirtual 98, 3) := by decide +kernel
theorem dL_law_558 : decode cL_law 558 = .ok (.pop, 1) := by decide +kernel
theorem dL_law_559 : decode cL_law 559 = .ok (.aload_n 2, 1) := by decide +kernel
theorem dL_law_560 : decode cL_law 560 = .ok (.invokevirtual 101, 3) := by decide +kernel
theorem dL_law_563 : decode cL_law 563 = .ok (.pop, 1) := by decide +kernel
theorem dL_law_564 : decode cL_law 564 = .ok (.goto 243, 3) := by decide +kernel
theorem dL_law_567 : decode cL_law 567 = .ok (.aload_n 1, 1) := by decide +kernel
theorem dL_law_568 : decode cL_law 568 = .ok (.aload_n 0, 1) := by decide +kernel
theorem dL_law_569 : decode cL_law 569 = .ok (.iload 4, 2) := by decide +kernel
theorem dL_law_571 : decode cL_law 571 = .ok (.iconst 1, 1) := by decide +kernel
theorem dL_law_572 : decode cL_law 572 = .ok (.iadd, 1) := by decide +kernel
theorem dL_law_573 : decode cL_law 573 = .ok (.iaload, 1) := by decide +kernel
theorem dL_law_574 : decode cL_law 574 = .ok (.aload_n 3, 1) := by decide +kernel
theorem dL_law_575 : decode cL_law 575 = .ok (.invokestatic 102, 3) := by decide +kernel
theorem dL_law_578 : decode cL_law 578 = .ok (.istore 5, 2) := by decide +kernel
theorem dL_law_580 : decode cL_law 580 = .ok (.aload_n 2, 1) := by decide +kernel
theorem dL_law_581 : decode cL_law 581 = .ok (.aload_n 0, 1) := by decide +kernel
theorem dL_law_582 : decode cL_law 582 = .ok (.iload 4, 2) := by decide +kernel
theorem dL_law_584 : decode cL_law 584 = .ok (.iconst 1, 1) := by decide +kernel
theorem dL_law_585 : decode cL_law 585 = .ok (.iadd, 1) := by decide +kernel
theorem dL_law_586 : decode cL_law 586 = .ok (.iaload, 1) := by decide +kernel
theorem dL_law_587 : decode cL_law 587 = .ok (.invokevirtual 105, 3) := by decide +kernel
theorem dL_law_590 : decode cL_law 590 = .ok (.istore 6, 2) := by decide +kernel
theorem dL_law_592 : decode cL_law 592 = .ok (.goto 215, 3) := by decide +kernel
theorem dL_law_595 : decode cL_law 595 = .ok (.aload_n 1, 1) := by decide +kernel
theorem dL_law_596 : decode cL_law 596 = .ok (.aload_n 0, 1) := by decide +kernel
theorem dL_law_597 : decode cL_law 597 = .ok (.iload 4, 2) := by decide +kernel
theorem dL_law_599 : decode cL_law 599 = .ok (.iconst 1, 1) := by decide +kernel
theorem dL_law_600 : decode cL_law 600 = .ok (.iadd, 1) := by decide +kernel
theorem dL_law_601 : decode cL_law 601 = .ok (.iaload, 1) := by decide +kernel
theorem dL_law_602 : decode cL_law 602 = .ok (.aload_n 0, 1) := by decide +kernel
theorem dL_law_603 : decode cL_law 603 = .ok (.iload 4, 2) := by decide +kernel
theorem dL_law_605 : decode cL_law 605 = .ok (.iconst 2, 1) := by decide +kernel
theorem dL_law_606 : decode cL_law 606 = .ok (.iadd, 1) := by decide +kernel
theorem dL_law_607 : decode cL_law 607 = .ok (.iaload, 1) := by decide +kernel
theorem dL_law_608 : decode cL_law 608 = .ok (.aload_n 0, 1) := by decide +kernel
theorem dL_law_609 : decode cL_law 609 = .ok (.iload 4, 2) := by decide +kernel
theorem dL_law_611 : decode cL_law 611 = .ok (.iconst 3, 1) := by decide +kernel
theorem dL_law_612 : decode cL_law 612 = .ok (.iadd, 1) := by decide +kernel
theorem dL_law_613 : decode cL_law 613 = .ok (.iaload, 1) := by decide +kernel
theorem dL_law_614 : decode cL_law 614 = .ok (.aload_n 3, 1) := by decide +kernel
theorem dL_law_615 : decode cL_law 615 = .ok (.invokestatic 106, 3) := by decide +kernel
theorem dL_law_618 : decode cL_law 618 = .ok (.istore 5, 2) := by decide +kernel
theorem dL_law_620 : decode cL_law 620 = .ok (.aload_n 2, 1) := by decide +kernel
theorem dL_law_621 : decode cL_law 621 = .ok (.aload_n 0, 1) := by decide +kernel
theorem dL_law_622 : decode cL_law 622 = .ok (.iload 4, 2) := by decide +kernel
theorem dL_law_624 : decode cL_law 624 = .ok (.iconst 1, 1) := by decide +kernel
theorem dL_law_625 : decode cL_law 625 = .ok (.iadd, 1) := by decide +kernel
theorem dL_law_626 : decode cL_law 626 = .ok (.iaload, 1) := by decide +kernel
theorem dL_law_627 : decode cL_law 627 = .ok (.aload_n 0, 1) := by decide +kernel
theorem dL_law_628 : decode cL_law 628 = .ok (.iload 4, 2) := by decide +kernel
theorem dL_law_630 : decode cL_law 630 = .ok (.iconst 2, 1) := by decide +kernel
theorem dL_law_631 : decode cL_law 631 = .ok (.iadd, 1) := by decide +kernel
theorem dL_law_632 : decode cL_law 632 = .ok (.iaload, 1) := by decide +kernel
theorem dL_law_633 : decode cL_law 633 = .ok (.aload_n 0, 1) := by decide +kernel
theorem dL_law_634 : decode cL_law 634 = .ok (.iload 4, 2) := by decide +kernel
theorem dL_law_636 : decode cL_law 636 = .ok (.iconst 3, 1) := by decide +kernel
theorem dL_law_637 : decode cL_law 637 = .ok (.iadd, 1) := by decide +kernel
theorem dL_law_638 : decode cL_law 638 = .ok (.iaload, 1) := by decide +kernel
theorem dL_law_639 : decode cL_law 639 = .ok (.invokevirtual 108, 3) := by decide +kernel
theorem dL_law_642 : decode cL_law 642 = .ok (.istore 6, 2) := by decide +kernel
theorem dL_law_644 : decode cL_law 644 = .ok (.goto 163, 3) := by decide +kernel
theorem dL_law_647 : decode cL_law 647 = .ok (.aload_n 1, 1) := by decide +kernel
theorem dL_law_648 : decode cL_law 648 = .ok (.aload_n 0, 1) := by decide +kernel
theorem dL_law_649 : decode cL_law 649 = .ok (.iload 4, 2) := by decide +kernel
theorem dL_law_651 : decode cL_law 651 = .ok (.iconst 1, 1) := by decide +kernel
theorem dL_law_652 : decode cL_law 652 = .ok (.iadd, 1) := by decide +kernel
theorem dL_law_653 : decode cL_law 653 = .ok (.iaload, 1) := by decide +kernel
theorem dL_law_654 : decode cL_law 654 = .ok (.aload_n 0, 1) := by decide +kernel
theorem dL_law_655 : decode cL_law 655 = .ok (.iload 4, 2) := by decide +kernel
theorem dL_law_657 : decode cL_law 657 = .ok (.iconst 2, 1) := by decide +kernel
theorem dL_law_658 : decode cL_law 658 = .ok (.iadd, 1) := by decide +kernel
theorem dL_law_659 : decode cL_law 659 = .ok (.iaload, 1) := by decide +kernel
theorem dL_law_660 : decode cL_law 660 = .ok (.aload_n 0, 1) := by decide +kernel
theorem dL_law_661 : decode cL_law 661 = .ok (.iload 4, 2) := by decide +kernel
theorem dL_law_663 : decode cL_law 663 = .ok (.iconst 3, 1) := by decide +kernel
theorem dL_law_664 : decode cL_law 664 = .ok (.iadd, 1) := by decide +kernel
theorem dL_law_665 : decode cL_law 665 = .ok (.iaload, 1) := by decide +kernel
theorem dL_law_666 : decode cL_law 666 = .ok (.aload_n 0, 1) := by decide +kernel
theorem dL_law_667 : decode cL_law 667 = .ok (.iload 4, 2) := by decide +kernel
theorem dL_law_669 : decode cL_law 669 = .ok (.iconst 4, 1) := by decide +kernel
theorem dL_law_670 : decode cL_law 670 = .ok (.iadd, 1) := by decide +kernel
theorem dL_law_671 : decode cL_law 671 = .ok (.iaload, 1) := by decide +kernel
theorem dL_law_672 : decode cL_law 672 = .ok (.aload_n 3, 1) := by decide +kernel
theorem dL_law_673 : decode cL_law 673 = .ok (.invokestatic 109, 3) := by decide +kernel
theorem dL_law_676 : decode cL_law 676 = .ok (.istore 5, 2) := by decide +kernel
theorem dL_law_678 : decode cL_law 678 = .ok (.aload_n 2, 1) := by decide +kernel
theorem dL_law_679 : decode cL_law 679 = .ok (.aload_n 0, 1) := by decide +kernel
theorem dL_law_680 : decode cL_law 680 = .ok (.iload 4, 2) := by decide +kernel
theorem dL_law_682 : decode cL_law 682 = .ok (.iconst 1, 1) := by decide +kernel
theorem dL_law_683 : decode cL_law 683 = .ok (.iadd, 1) := by decide +kernel
theorem dL_law_684 : decode cL_law 684 = .ok (.iaload, 1) := by decide +kernel
theorem dL_law_685 : decode cL_law 685 = .ok (.aload_n 0, 1) := by decide +kernel
theorem dL_law_686 : decode cL_law 686 = .ok (.iload 4, 2) := by decide +kernel
theorem dL_law_688 : decode cL_law 688 = .ok (.iconst 2, 1) := by decide +kernel
theorem dL_law_689 : decode cL_law 689 = .ok (.iadd, 1) := by decide +kernel
theorem dL_law_690 : decode cL_law 690 = .ok (.iaload, 1) := by decide +kernel
theorem dL_law_691 : decode cL_law 691 = .ok (.aload_n 0, 1) := by decide +kernel
theorem dL_law_692 : decode cL_law 692 = .ok (.iload 4, 2) := by decide +kernel
theorem dL_law_694 : decode cL_law 694 = .ok (.iconst 3, 1) := by decide +kernel
theorem dL_law_695 : decode cL_law 695 = .ok (.iadd, 1) := by decide +kernel
theorem dL_law_696 : decode cL_law 696 = .ok (.iaload, 1) := by decide +kernel
theorem dL_law_697 : decode cL_law 697 = .ok (.aload_n 0, 1) := by decide +kernel
theorem dL_law_698 : decode cL_law 698 = .ok (.iload 4, 2) := by decide +kernel
theorem dL_law_700 : decode cL_law 700 = .ok (.iconst 4, 1) := by decide +kernel
theorem dL_law_701 : decode cL_law 701 = .ok (.iadd, 1) := by decide +kernel
theorem dL_law_702 : decode cL_law 702 = .ok (.iaload, 1) := by decide +kernel
theorem dL_law_703 : decode cL_law 703 = .ok (.invokevirtual 111, 3) := by decide +kernel
theorem dL_law_706 : decode cL_law 706 = .ok (.istore 6, 2) := by decide +kernel
theorem dL_law_708 : decode cL_law 708 = .ok (.goto 99, 3) := by decide +kernel
theorem dL_law_711 : decode cL_law 711 = .ok (.aload_n 1, 1) := by decide +kernel
theorem dL_law_712 : decode cL_law 712 = .ok (.aload_n 0, 1) := by decide +kernel
theorem dL_law_713 : decode cL_law 713 = .ok (.iload 4, 2) := by decide +kernel
theorem dL_law_715 : decode cL_law 715 = .ok (.iconst 1, 1) := by decide +kernel
theorem dL_law_716 : decode cL_law 716 = .ok (.iadd, 1) := by decide +kernel
theorem dL_law_717 : decode cL_law 717 = .ok (.iaload, 1) := by decide +kernel
theorem dL_law_718 : decode cL_law 718 = .ok (.aload_n 0, 1) := by decide +kernel
theorem dL_law_719 : decode cL_law 719 = .ok (.iload 4, 2) := by decide +kernel
theorem dL_law_721 : decode cL_law 721 = .ok (.iconst 2, 1) := by decide +kernel
theorem dL_law_722 : decode cL_law 722 = .ok (.iadd, 1) := by decide +kernel
theorem dL_law_723 : decode cL_law 723 = .ok (.iaload, 1) := by decide +kernel
theorem dL_law_724 : decode cL_law 724 = .ok (.aload_n 3, 1) := by decide +kernel
theorem dL_law_725 : decode cL_law 725 = .ok (.invokestatic 112, 3) := by decide +kernel
theorem dL_law_728 : decode cL_law 728 = .ok (.istore 5, 2) := by decide +kernel
theorem dL_law_730 : decode cL_law 730 = .ok (.aload_n 2, 1) := by decide +kernel
theorem dL_law_731 : decode cL_law 731 = .ok (.aload_n 0, 1) := by decide +kernel
theorem dL_law_732 : decode cL_law 732 = .ok (.iload 4, 2) := by decide +kernel
theorem dL_law_734 : decode cL_law 734 = .ok (.iconst 1, 1) := by decide +kernel
theorem dL_law_735 : decode cL_law 735 = .ok (.iadd, 1) := by decide +kernel
theorem dL_law_736 : decode cL_law 736 = .ok (.iaload, 1) := by decide +kernel
theorem dL_law_737 : decode cL_law 737 = .ok (.aload_n 0, 1) := by decide +kernel
theorem dL_law_738 : decode cL_law 738 = .ok (.iload 4, 2) := by decide +kernel
theorem dL_law_740 : decode cL_law 740 = .ok (.iconst 2, 1) := by decide +kernel
theorem dL_law_741 : decode cL_law 741 = .ok (.iadd, 1) := by decide +kernel
theorem dL_law_742 : decode cL_law 742 = .ok (.iaload, 1) := by decide +kernel
theorem dL_law_743 : decode cL_law 743 = .ok (.invokevirtual 115, 3) := by decide +kernel
theorem dL_law_746 : decode cL_law 746 = .ok (.istore 6, 2) := by decide +kernel
theorem dL_law_748 : decode cL_law 748 = .ok (.goto 59, 3) := by decide +kernel
theorem dL_law_751 : decode cL_law 751 = .ok (.aload_n 1, 1) := by decide +kernel
theorem dL_law_752 : decode cL_law 752 = .ok (.aload_n 0, 1) := by decide +kernel
theorem dL_law_753 : decode cL_law 753 = .ok (.iload 4, 2) := by decide +kernel
theorem dL_law_755 : decode cL_law 755 = .ok (.iconst 1, 1) := by decide +kernel
theorem dL_law_756 : decode cL_law 756 = .ok (.iadd, 1) := by decide +kernel
theorem dL_law_757 : decode cL_law 757 = .ok (.iaload, 1) := by decide +kernel
theorem dL_law_758 : decode cL_law 758 = .ok (.aload_n 3, 1) := by decide +kernel
theorem dL_law_759 : decode cL_law 759 = .ok (.invokestatic 116, 3) := by decide +kernel
theorem dL_law_762 : decode cL_law 762 = .ok (.istore 5, 2) := by decide +kernel
theorem dL_law_764 : decode cL_law 764 = .ok (.aload_n 2, 1) := by decide +kernel
theorem dL_law_765 : decode cL_law 765 = .ok (.aload_n 0, 1) := by decide +kernel
theorem dL_law_766 : decode cL_law 766 = .ok (.iload 4, 2) := by decide +kernel
theorem dL_law_768 : decode cL_law 768 = .ok (.iconst 1, 1) := by decide +kernel
theorem dL_law_769 : decode cL_law 769 = .ok (.iadd, 1) := by decide +kernel
theorem dL_law_770 : decode cL_law 770 = .ok (.iaload, 1) := by decide +kernel
theorem dL_law_771 : decode cL_law 771 = .ok (.invokevirtual 118, 3) := by decide +kernel
theorem dL_law_774 : decode cL_law 774 = .ok (.istore 6, 2) := by decide +kernel
theorem dL_law_776 : decode cL_law 776 = .ok (.goto 31, 3) := by decide +kernel
theorem dL_law_779 : decode cL_law 779 = .ok (.aload_n 1, 1) := by decide +kernel
theorem dL_law_780 : decode cL_law 780 = .ok (.aload_n 0, 1) := by decide +kernel
theorem dL_law_781 : decode cL_law 781 = .ok (.iload 4, 2) := by decide +kernel
theorem dL_law_783 : decode cL_law 783 = .ok (.iconst 1, 1) := by decide +kernel
theorem dL_law_784 : decode cL_law 784 = .ok (.iadd, 1) := by decide +kernel
theorem dL_law_785 : decode cL_law 785 = .ok (.iaload, 1) := by decide +kernel
theorem dL_law_786 : decode cL_law 786 = .ok (.aload_n 3, 1) := by decide +kernel
theorem dL_law_787 : decode cL_law 787 = .ok (.invokestatic 119, 3) := by decide +kernel
theorem dL_law_790 : decode cL_law 790 = .ok (.istore 5, 2) := by decide +kernel
theorem dL_law_792 : decode cL_law 792 = .ok (.aload_n 2, 1) := by decide +kernel
theorem dL_law_793 : decode cL_law 793 = .ok (.aload_n 0, 1) := by decide +kernel
theorem dL_law_794 : decode cL_law 794 = .ok (.iload 4, 2) := by decide +kernel
theorem dL_law_796 : decode cL_law 796 = .ok (.iconst 1, 1) := by decide +kernel
theorem dL_law_797 : decode cL_law 797 = .ok (.iadd, 1) := by decide +kernel
theorem dL_law_798 : decode cL_law 798 = .ok (.iaload, 1) := by decide +kernel
theorem dL_law_799 : decode cL_law 799 = .ok (.invokevirtual 121, 3) := by decide +kernel
theorem dL_law_802 : decode cL_law 802 = .ok (.istore 6, 2) := by decide +kernel
theorem dL_law_804 : decode cL_law 804 = .ok (.goto 3, 3) := by decide +kernel
theorem dL_law_807 : decode cL_law 807 = .ok (.iinc 4 6, 3) := by decide +kernel
theorem dL_law_810 : decode cL_law 810 = .ok (.goto (-787), 3) := by decide +kernel
theorem dL_law_813 : decode cL_law 813 = .ok (.iconst 1, 1) := by decide +kernel
theorem dL_law_814 : decode cL_law 814 = .ok (.ireturn, 1) := by decide +kernel
end
section
/-! MY OWN ROWS: a world is a map from addresses to cells (ZM); a contract says what the map is behind the method. No cell below b0 is ever written. -/
abbrev ZM : Type := Nat → Option va_E
def zup (M : ZM) (a : Nat) (e : va_E) : ZM := fun q => if q = a then some e else M q
theorem zup_self (M : ZM) (a : Nat) (e : va_E) : zup M a e a = some e := by simp [zup]
theorem zup_ne (M : ZM) {a q : Nat} (e : va_E) (h : q ≠ a) : zup M a e q = M q := by simp [zup, h]
theorem zup_zup (M : ZM) (a : Nat) (e e' : va_E) : zup (zup M a e) a e' = zup M a e' := by
  funext q; by_cases h : q = a <;> simp [zup, h]
theorem zup_comm (M : ZM) {a b : Nat} (e e' : va_E) (h : a ≠ b) : zup (zup M a e) b e' = zup (zup M b e') a e := by
  funext q
  by_cases h1 : q = a
  · subst h1; simp [zup, h]
  · by_cases h2 : q = b
    · subst h2; simp [zup, h1]
    · simp [zup, h1, h2]
def zA (b0 : Nat) : Nat → Prop := fun q => b0 ≤ q
def zM (D : va_G) (b0 : Nat) (M : ZM) (H : Heap) : Prop := ∀ (a : Nat) (e : va_E), M a = some e → b0 ≤ a ∧ va_at D vwCl (a, e) H
theorem zM.one {D : va_G} {b0 : Nat} {M : ZM} {H : Heap} (h : zM D b0 M H) {a : Nat} {e : va_E} (he : M a = some e) : va_P D vwCl [(a, e)] H := by
  intro k q hk
  have hz : k < 1 := (List.getElem?_eq_some_iff.mp hk).1
  rw [show k = 0 by omega] at hk
  cases hk
  exact (h a e he).2
theorem zM.two {D : va_G} {b0 : Nat} {M : ZM} {H : Heap} (h : zM D b0 M H) {a b : Nat} {e e' : va_E} (he : M a = some e) (he' : M b = some e') : va_P D vwCl [(a, e), (b, e')] H := by
  intro k q hk
  have hz : k < 2 := (List.getElem?_eq_some_iff.mp hk).1
  rcases (show k = 0 ∨ k = 1 by omega) with rfl | rfl
  · cases hk
    exact (h a e he).2
  · cases hk
    exact (h b e' he').2
theorem zM.lt {D : va_G} {b0 : Nat} {M : ZM} {H : Heap} (h : zM D b0 M H) {a : Nat} {e : va_E} (he : M a = some e) : a < H.size := (h a e he).2.lt
theorem zM.set {D : va_G} {b0 : Nat} {M : ZM} {H H1 : Heap} (h : zM D b0 M H) {a : Nat} {e e' : va_E} (he : M a = some e) (h1 : va_at D vwCl (a, e') H1) (oq : ∀ q : Nat, q ≠ a → H1[q]? = H[q]?) : zM D b0 (zup M a e') H1 := by
  intro q f hq
  by_cases hqa : q = a
  · subst hqa
    rw [zup_self] at hq
    cases hq
    exact ⟨(h q e he).1, h1⟩
  · rw [zup_ne _ _ hqa] at hq
    exact ⟨(h q f hq).1, (h q f hq).2.kept (oq q hqa)⟩
theorem zM.push {D : va_G} {b0 : Nat} {M : ZM} {H H1 : Heap} (h : zM D b0 M H) {a : Nat} {e' : va_E} (ha : a = H.size) (hb : b0 ≤ a) (h1 : va_at D vwCl (a, e') H1) (oq : ∀ q : Nat, q < H.size → H1[q]? = H[q]?) : zM D b0 (zup M a e') H1 := by
  intro q f hq
  by_cases hqa : q = a
  · subst hqa
    rw [zup_self] at hq
    cases hq
    exact ⟨hb, h1⟩
  · rw [zup_ne _ _ hqa] at hq
    exact ⟨(h q f hq).1, (h q f hq).2.kept (oq q (h.lt hq))⟩
/-- the kinds of arrays -/
def zT (aC : Nat → ClassId) : List (ClassId × FieldType) := [(aC 0, .int), (aC 1, .boolean), (aC 2, .object RX1), (aC 3, .object RX2), (aC 4, .object RX5), (aC 5, .array .int), (aC 6, .long)]
/-- words that stay true though they aren't 'good' -/
def zNest : Cond → Bool
  | .fieldLinkNest .. => true
  | .methodLinkNest .. => true
  | .castable .. => true
  | .declares .. => true
  | _ => false
def zW : List Cond := lw_tbl.filter goodWord
def zN : List Cond := lw_tbl.filter zNest
theorem zW_good {w : Cond} (h : w ∈ zW) : goodWord w = true := (List.mem_filter.mp h).2
theorem zN_warm {w : Cond} (h : zNest w = true) {s U : State} (hW : s.WarmedH U.vm) (hZ : va_Nw w s) : va_Nw w U := by
  cases w <;> first | exact va_Nw.warmF hW hZ | exact va_Nw.warmM hW hZ | exact va_Nw.warmC hW hZ | exact va_Nw.warmD hW hZ | (simp [zNest] at h)
theorem zN_tab {w : Cond} (h : zNest w = true) : w.onTables = true := by
  cases w <;> first | rfl | (simp [zNest] at h)
/-- the texts of the throws -/
def zStr : List (String × Nat × String) := [("UpdateSteps", 60, "no such kind, or not with this FROM or TO"), ("UpdateSteps", 67, "no more steps"), ("UpdateSteps", 234, "no such step"), ("UpdateSteps", 100, "no such template in this step"), ("UpdateSteps", 112, "no more templates"), ("UpdateSteps", 121, "no such pattern in this step"), ("UpdateSteps", 126, "no more rows of the pattern"), ("UpdateSteps", 236, "no such file"), ("UpdateSteps", 139, "a file has names alone"), ("UpdateSteps", 146, "no more rows of the file"), ("UpdateSteps", 245, "no such graph"), ("UpdateSteps", 190, "no such fact"), ("UpdateSteps", 193, "a fact has parts 0 to 2"), ("UpdateSteps", 212, "no such change"), ("UpdateSteps", 214, "a change has parts 0 to 4"), ("UpdateSteps", 232, "what is 0 to 4")]
/-- what isn't castable -/
def zNo : List (String × String) := [("java/lang/IllegalStateException", "java/lang/IllegalArgumentException"), ("java/lang/IndexOutOfBoundsException", "java/lang/IllegalArgumentException"), ("java/lang/IllegalArgumentException", "java/lang/IllegalStateException"), ("java/lang/IndexOutOfBoundsException", "java/lang/IllegalStateException"), ("java/lang/IllegalArgumentException", "java/lang/IndexOutOfBoundsException"), ("java/lang/IllegalStateException", "java/lang/IndexOutOfBoundsException")]
/-- the class of int[][] has been made -/
def zAA (U : State) : Prop := (Cond.arrayOver (.array .int)).before #[] U = true
theorem zAA_moved {u U : State} (hvm : u.vm.Alike U.vm) (h : zAA u) : zAA U := by
  obtain ⟨comp, c, k, h1, h2, h3, h4, h5⟩ := arrayOverA_spec h
  obtain ⟨k', hk', he⟩ := hvm.2.2 _ _ h3
  have hi : (U.vm.classes.findIdx? fun (x : Class) => match x.kind with | .array component _ => component == comp | _ => false) = some c := by
    have e1 := va_idx_bare U.vm comp
    have e2 := va_idx_bare u.vm comp
    have e3 : U.vm.bare = u.vm.bare := by first | exact hvm.bare_eq | exact hvm.bare_eq.symm
    rw [e3] at e1
    exact (e1.symm.trans e2).trans h2
  have hkind : k'.kind = .array comp (.array .int) := by rw [he]; exact h4
  have f1 : U.vm.findClass (FieldType.array .int).toString = some comp := by rw [hvm.findClass]; exact h1
  have f2 : U.vm.findClass ("[" ++ (FieldType.array .int).toString) = some c := by rw [hvm.findClass]; exact h5
  unfold zAA Cond.before Cond.holds
  simp only [Cond.value]
  rw [f1, Option.bind_some]
  refine (congrArg (fun o : Option Nat => (o.bind (fun c => (U.vm.classes[c]?).map fun (k : Class) => match k.kind with | .array _ ty => decide (ty = FieldType.array .int) && decide (U.vm.findClass ("[" ++ (FieldType.array .int).toString) = some c) | _ => false) == some true)) hi).trans ?_
  simp [hk', hkind, f2]
/-- all that the tables give, at any state -/
def zg (U : State) : Prop := (∀ w ∈ zW, w.before #[] U = true) ∧ (∀ w ∈ zN, va_Nw w U) ∧ (∀ C ∈ [RX1, RX2, RX5], va_AO C U) ∧ (∀ q ∈ zStr, ∃ a, vk_R q.1 q.2.1 q.2.2 a U) ∧ (∀ q ∈ zNo, va_Nc q.1 q.2 U) ∧ zAA U
theorem zg_warm {s U : State} (hW : s.WarmedH U.vm) (h : zg s) : zg U :=
  ⟨fun w hw => word_at hW (good_of_word (zW_good hw)) (h.1 w hw), fun w hw => zN_warm (List.mem_filter.mp hw).2 hW (h.2.1 w hw), fun C hC => va_AO.moved hW.alike (h.2.2.1 C hC),
    fun q hq => (h.2.2.2.1 q hq).elim fun a ha => ⟨a, vk_R.warm hW ha⟩, fun q hq => va_Nc.moved hW.alike (h.2.2.2.2.1 q hq), zAA_moved hW.alike h.2.2.2.2.2⟩
theorem zg_w {U : State} (h : zg U) {w : Cond} (hw : w ∈ zW) {A : Array Value} : w.before A U = true := word_at (State.WarmedH.refl U) (good_of_word (zW_good hw)) (h.1 w hw)
theorem zg_n {U : State} (h : zg U) {w : Cond} (hw : w ∈ zN) {A : Array Value} : w.before A U = true := va_Nw.use (zN_tab (List.mem_filter.mp hw).2) (h.2.1 w hw)
def zG (l : Launch) (D : va_G) (aC : Nat → ClassId) (b0 : Nat) (U : State) : Prop := l.stackTraces = false ∧ va_K D vwCl (zT aC) U ∧ zg U ∧ vx_Zq Bundle.tN "UNASSIGNED_STACK" Bundle.steD (zA b0) U U.heap ∧ vx_Zq Bundle.tN "SUPPRESSED_SENTINEL" Bundle.listD (zA b0) U U.heap ∧ b0 ≤ U.heap.size
theorem zG_to {l : Launch} {D : va_G} {aC : Nat → ClassId} {b0 : Nat} {s U : State} (h : zG l D aC b0 s) (hW : s.WarmedH U.vm) (hz : s.heap.size ≤ U.heap.size) (hk : ∀ q : Nat, q < s.heap.size → ¬ zA b0 q → U.heap[q]? = s.heap[q]?) : zG l D aC b0 U := by
  obtain ⟨h1, h2, h3, h4, h5, h6⟩ := h
  exact ⟨h1, va_K.moved hW.alike h2, zg_warm hW h3, vx_Zq.moved hW.alike (h4.kept hk), vx_Zq.moved hW.alike (h5.kept hk), Nat.le_trans h6 hz⟩
/-- a contract's start and end -/
def zPc (l : Launch) (D : va_G) (aC : Nat → ClassId) (b0 : Nat) (av : List Value) (M : ZM) (sz : Nat) : Array Value → State → Prop := fun v U => v = av.toArray ∧ zG l D aC b0 U ∧ zM D b0 M U.heap ∧ U.heap.size = sz
theorem zPc_blind {l : Launch} {D : va_G} {aC : Nat → ClassId} {b0 : Nat} {av : List Value} {M : ZM} {sz : Nat} : FrameBlind (zPc l D aC b0 av M sz) := by
  intro a U g mk h
  obtain ⟨h1, h2, h3, h4⟩ := h
  exact ⟨h1, zG_to (U := U.calling g mk a) h2 (State.WarmedH.refl U) (Nat.le_refl _) (fun _ _ _ => rfl), h3, h4⟩
def zQc (D : va_G) (b0 : Nat) (P : Option Value → ZM → Nat → Prop) : Array Value → State → Outcome → State → Prop := fun _ st o t => (∃ (r : Option Value) (M' : ZM) (sz' : Nat), o = .returned r ∧ P r M' sz' ∧ zM D b0 M' t.heap ∧ t.heap.size = sz') ∧ va_F (zA b0) st t
abbrev rz (n mc ms : Nat) : Room := { frames := 20 * n + 20, cells := mc, slots := ms, locals := 200 * n + 200 }
/-- THE CONTRACT of a method that returns -/
def Ct (l : Launch) (D : va_G) (aC : Nat → ClassId) (b0 : Nat) (y : MethodName) (cc : ByteArray) (maxL : Nat) (ret : Option FieldType) (n mc ms : Nat) (av : List Value) (M : ZM) (sz : Nat) (P : Option Value → ZM → Nat → Prop) : Prop :=
  Met l y [.code y cc maxL ret] (rz n mc ms) (zPc l D aC b0 av M sz) (zQc D b0 P) mc ms (zA b0)
/-- what stands fast in a method's body -/
def zC (p : Program) (l : Launch) (s : State) (m : MethodId) (c : Code) (D : va_G) (aC : Nat → ClassId) (b0 : Nat) (own : String) (cc : ByteArray) (nL : Nat) : Prop := p.tables.exec = Jvm.exec ∧ c.code = cc ∧ c.maxLocals = nL ∧ s.vm.findClass own = some m.cls ∧ zG l D aC b0 s
/-- the machine at frame g, the heap as M has it, of size sz -/
def Z (p : Program) (l : Launch) (e : Env) (R : Room) (s : State) (m : MethodId) (args : Array Value) (below : List Frame) (meth : Method) (c : Code) (D : va_G) (b0 : Nat) (M : ZM) (sz cells slots : Nat) (Q : State → Prop) (g : JFrame) : Prop :=
  ∀ (H : Heap) (locs : List Loc), zM D b0 M H → H.size = sz → va_S (zA b0) s.heap H locs → W p l e R s m args below meth c H locs cells slots Q g
section ZR
variable {p : Program} {l : Launch} {e : Env} {R : Room} {s : State} {m : MethodId} {args : Array Value} {below : List Frame} {meth : Method} {c : Code} {D : va_G} {aC : Nat → ClassId} {b0 : Nat} {M : ZM} {sz cells slots : Nat} {Q : State → Prop} {own : String} {cc : ByteArray} {nL pc : Nat} {ls : Array Slot} {rest : List Value} {a : Nat}
theorem zz {g g2 : JFrame} (h : ∀ (H : Heap) (locs : List Loc), W p l e R s m args below meth c H locs cells slots Q g2 → W p l e R s m args below meth c H locs cells slots Q g) (k : Z p l e R s m args below meth c D b0 M sz cells slots Q g2) : Z p l e R s m args below meth c D b0 M sz cells slots Q g :=
  fun H locs h1 h2 h3 => h H locs (k H locs h1 h2 h3)
theorem zb {g g2 g3 : JFrame} {P : Prop} (h : ∀ (H : Heap) (locs : List Loc), (P → W p l e R s m args below meth c H locs cells slots Q g2) → (¬ P → W p l e R s m args below meth c H locs cells slots Q g3) → W p l e R s m args below meth c H locs cells slots Q g)
    (k1 : P → Z p l e R s m args below meth c D b0 M sz cells slots Q g2) (k2 : ¬ P → Z p l e R s m args below meth c D b0 M sz cells slots Q g3) : Z p l e R s m args below meth c D b0 M sz cells slots Q g :=
  fun H locs h1 h2 h3 => h H locs (fun q => k1 q H locs h1 h2 h3) (fun q => k2 q H locs h1 h2 h3)
theorem zs {g : JFrame} {pc' : Nat} {st : List Value} {lv : List (Nat × Value)} (h : ∀ (H : Heap) (locs : List Loc), (∀ ls : Array Slot, lv_has ls nL lv → W p l e R s m args below meth c H locs cells slots Q (F0 m pc' ls st)) → W p l e R s m args below meth c H locs cells slots Q g)
    (k : ∀ ls : Array Slot, lv_has ls nL lv → Z p l e R s m args below meth c D b0 M sz cells slots Q (F0 m pc' ls st)) : Z p l e R s m args below meth c D b0 M sz cells slots Q g :=
  fun H locs h1 h2 h3 => h H locs (fun ls hl => k ls hl H locs h1 h2 h3)
theorem zi {x : Int32} {st : List Value} (k : ∀ y : Int32, y = x → Z p l e R s m args below meth c D b0 M sz cells slots Q (F0 m pc ls (.int y :: st))) : Z p l e R s m args below meth c D b0 M sz cells slots Q (F0 m pc ls (.int x :: st)) := k x rfl
theorem zeq {g : JFrame} {M' : ZM} (h : M = M') (k : Z p l e R s m args below meth c D b0 M' sz cells slots Q g) : Z p l e R s m args below meth c D b0 M sz cells slots Q g := h ▸ k
theorem zval {v v' : Value} {st : List Value} (h : v = v') (k : Z p l e R s m args below meth c D b0 M sz cells slots Q (F0 m pc ls (v' :: st))) : Z p l e R s m args below meth c D b0 M sz cells slots Q (F0 m pc ls (v :: st)) := h ▸ k
theorem zwid {g : JFrame} {k n : Nat} (h1 : cells ≤ k) (h2 : slots ≤ n) (kk : Z p l e R s m args below meth c D b0 M sz k n Q g) : Z p l e R s m args below meth c D b0 M sz cells slots Q g :=
  fun H locs a1 a2 a3 => W.widen h1 h2 (kk H locs a1 a2 a3)
/-- a field by its place in the pool of 'own' -/
def zFd (own : String) (idx ci k : Nat) : Prop := ∃ (C : String) (T : u_T) (N : Nat), vwCl[ci]? = some (C, T, N) ∧ k < N ∧ (∀ w ∈ u_ws C T N, w ∈ zW) ∧ (Cond.fieldLink own idx (T k).1 (T k).2.1 (T k).2.2.1 ∈ zW ∨ ∃ host : String, Cond.fieldLinkNest own idx (T k).1 (T k).2.1 (T k).2.2.1 host ∈ zN)
theorem z_get (C : zC p l s m c D aC b0 own cc nL) {idx ci k : Nat} (F : zFd own idx ci k) {fs : List Value} {v : Value} (he : M a = some (.inr (ci, fs))) (hv : fs[k]? = some v) (hdg : decode cc pc = .ok (.getfield idx, 3))
    (kk : Z p l e R s m args below meth c D b0 M sz cells slots Q (F0 m (pc + 3) ls (v :: rest))) : Z p l e R s m args below meth c D b0 M sz cells slots Q (F0 m pc ls (.ref a :: rest)) := by
  obtain ⟨hx, hb, -, hown, -, hK, hg, -⟩ := C
  obtain ⟨Cn, T, N, hc, hk, hin, hlk⟩ := F
  intro H locs h1 h2 h3
  rcases hlk with hlk | ⟨host, hlk⟩
  · exact va_get (D := D) hx hb (Ts := zW) (fun w hw => zg_w hg hw) hin hown hK (h1.one he) 0 rfl hc k hk (zg_w hg hlk) (fun _ h => h) hv hdg (kk H locs h1 h2 h3)
  · exact va_getN (D := D) hx hb (Ts := zW) (fun w hw => zg_w hg hw) hin hown hK (h1.one he) 0 rfl hc k hk (zg_n hg hlk) (fun _ h => h) hv hdg (kk H locs h1 h2 h3)
end ZR
end
section
section ZR2
variable {p : Program} {l : Launch} {e : Env} {R : Room} {s : State} {m : MethodId} {args : Array Value} {below : List Frame} {meth : Method} {c : Code} {D : va_G} {aC : Nat → ClassId} {b0 : Nat} {M : ZM} {sz cells slots : Nat} {Q : State → Prop} {own : String} {cc : ByteArray} {nL pc : Nat} {ls : Array Slot} {rest : List Value} {a : Nat}
/-- a field that may be written, by its place in the pool of 'own' -/
def zFp (own : String) (idx ci k : Nat) (ty : FieldType) (fin : Bool) : Prop := ∃ (C : String) (T : u_T) (N : Nat) (ty0 : Nat → FieldType), vwCl[ci]? = some (C, T, N) ∧ k < N ∧ (∀ w ∈ u_ws C T N, w ∈ zW) ∧ (∀ k, k < N → parseFieldDescriptor (T k).2.2.1 = some (ty0 k)) ∧ (∀ a, a < N → ∀ b, b < N → a ≠ b → (T a).2.1 ≠ (T b).2.1) ∧ ty0 k = ty ∧ (T k).2.2.2 = fin ∧
  ((fin = true ∧ (T k).1 = own ∧ Cond.fieldLink own idx (T k).1 (T k).2.1 (T k).2.2.1 ∈ zW) ∨ (fin = false ∧ (Cond.fieldLink own idx (T k).1 (T k).2.1 (T k).2.2.1 ∈ zW ∨ ∃ host : String, Cond.fieldLinkNest own idx (T k).1 (T k).2.1 (T k).2.2.1 host ∈ zN)))
theorem z_put (C : zC p l s m c D aC b0 own cc nL) {idx ci k : Nat} {ty : FieldType} {fin : Bool} (F : zFp own idx ci k ty fin) (hini : fin = true → meth.name = "<init>") {fs : List Value} {v : Value} (he : M a = some (.inr (ci, fs))) (hl : k < fs.length) (hn : narrow ty v = v) (hfit : fits ty v = true) (hdg : decode cc pc = .ok (.putfield idx, 3))
    (kk : Z p l e R s m args below meth c D b0 (zup M a (.inr (ci, fs.set k v))) sz cells slots Q (F0 m (pc + 3) ls rest)) : Z p l e R s m args below meth c D b0 M sz cells slots Q (F0 m pc ls (v :: .ref a :: rest)) := by
  obtain ⟨hx, hb, -, hown, -, hK, hg, -⟩ := C
  obtain ⟨Cn, T, N, ty0, hc, hk, hin, hty, hnm, h0, hfin, hlk⟩ := F
  have hts : ∀ w ∈ zW, w.before args s = true := fun w hw => zg_w hg hw
  have hap := va_apart (own := own) (D := D) hts hin ty0 hty hnm hK hc
  have hd : parseFieldDescriptor (T k).2.2.1 = some ty := by rw [hty k hk, h0]
  intro H locs h1 h2 h3
  obtain ⟨hb1, r, hr1, cell, q1, q2, q3, q4⟩ := h1 a _ he
  have hr : r = (Cn, T, N) := Option.some.inj (hr1.symm.trans hc)
  subst hr
  obtain ⟨hS, hfc, kC, hkC, hkind⟩ := hK.1 ci _ hc
  obtain ⟨cf, kf, fi, f, hi, hsl⟩ := hS k hk
  have hlay := hts _ (hin _ (u_in_lay hk))
  unfold u_lay at hlay
  have hst := (u_facts hfc hkC (u_lays hts hin hk) hi).1
  have fin1 : ∀ (H1 : Heap), H1[a]? = some (cell.setSlot f.slot v) → H1.size = H.size → (∀ q, q ≠ a → H1[q]? = H[q]?) → W p l e R s m args below meth c H1 (locs ++ [⟨a, f.slot⟩]) cells slots Q (F0 m (pc + 3) ls rest) := by
    intro H1 e1 e2 e3
    rw [hsl] at e1 ⊢
    exact kk H1 _ (h1.set he ⟨_, hc, t_OB.to (V := updV (vp_V fs) k v) ⟨_, e1, q2, q3, t_set q4 hap hk v⟩ (fun j _ => vp_updV_set hl v j)⟩ e3) (e2.trans h2) (h3.put e2 e3 hb1)
  rcases hlk with ⟨hf, hdecl, hlk⟩ | ⟨hf, hlk⟩
  · subst hf
    rw [if_pos hfin] at hlay
    have hcf : m.cls = cf := by
      obtain ⟨_, _, c', _, _, _, -, -, hf', -, -, -, hown2, -⟩ := Cond.laysFinal_spec hlay
      have e1 : c' = cf := by have := hi.symm.trans hf'; simp at this; exact this.1.symm
      rw [hdecl] at hown2
      rw [← e1]; exact Option.some.inj (hown.symm.trans hown2)
    have h6 := u_fits hfc hkC hkind (Or.inr hlay) hi hd hn hfit
    exact W.putFinK hx hb hown (zg_w hg hlk) hi hst hcf (hini rfl) (by rw [q2]; exact h6) q1 q3 (by rw [hsl]; exact k2_hasslot (q4 k hk)) rfl rfl hdg fin1
  · subst hf
    rw [if_neg (by rw [hfin]; decide)] at hlay
    have h6 := u_store hfc hkC hkind hlay hi hd hn hfit
    rcases hlk with hlk | ⟨host, hlk⟩
    · exact W.putK hx hb (f := f) ⟨hown, zg_w hg hlk, ⟨_, _, _, hi⟩, hst⟩ (by rw [q2]; exact h6) q1 q3 (by rw [hsl]; exact k2_hasslot (q4 k hk)) rfl rfl hdg fin1
    · exact va_WputK hx hb (f := f) hown (zg_n hg hlk) hi hst (by rw [q2]; exact h6) q1 q3 (by rw [hsl]; exact k2_hasslot (q4 k hk)) rfl rfl hdg fin1
theorem z_iald (C : zC p l s m c D aC b0 own cc nL) {n : Nat} {f : Nat → Int32} {i : Int32} (ha : M a = some (.inl (aC 0, n, .inl f))) (hin : vp_in i n) (hdg : decode cc pc = .ok (.iaload, 1))
    (kk : Z p l e R s m args below meth c D b0 M sz cells slots Q (F0 m (pc + 1) ls (.int (f i.toNatClampNeg) :: rest))) : Z p l e R s m args below meth c D b0 M sz cells slots Q (F0 m pc ls (.int i :: .ref a :: rest)) := by
  obtain ⟨hx, hb, -, hown, -, hK, hg, -⟩ := C
  exact fun H locs h1 h2 h3 => va_iald (D := D) hx hb hK (h1.one ha) 0 0 rfl rfl hin hdg (kk H locs h1 h2 h3)
theorem z_zald (C : zC p l s m c D aC b0 own cc nL) {n : Nat} {f : Nat → Int32} {i : Int32} (ha : M a = some (.inl (aC 1, n, .inl f))) (hin : vp_in i n) (hdg : decode cc pc = .ok (.baload, 1))
    (kk : Z p l e R s m args below meth c D b0 M sz cells slots Q (F0 m (pc + 1) ls (.int (f i.toNatClampNeg) :: rest))) : Z p l e R s m args below meth c D b0 M sz cells slots Q (F0 m pc ls (.int i :: .ref a :: rest)) := by
  obtain ⟨hx, hb, -, hown, -, hK, hg, -⟩ := C
  exact fun H locs h1 h2 h3 => va_zald (D := D) hx hb hK (h1.one ha) 0 1 rfl rfl hin hdg (kk H locs h1 h2 h3)
theorem z_aald (C : zC p l s m c D aC b0 own cc nL) (t0 : Nat) {Cn : String} {n : Nat} {f : Nat → Option Nat} {i : Int32} (ht : (zT aC)[t0]? = some (aC t0, .object Cn)) (ha : M a = some (.inl (aC t0, n, .inr (.inr (.inr (.inr f)))))) (hin : vp_in i n) {v : Value} (hv : va_rf (f i.toNatClampNeg) = v) (hdg : decode cc pc = .ok (.aaload, 1))
    (kk : Z p l e R s m args below meth c D b0 M sz cells slots Q (F0 m (pc + 1) ls (v :: rest))) : Z p l e R s m args below meth c D b0 M sz cells slots Q (F0 m pc ls (.int i :: .ref a :: rest)) := by
  obtain ⟨hx, hb, -, hown, -, hK, hg, -⟩ := C
  subst hv
  exact fun H locs h1 h2 h3 => va_aldq (D := D) hx hb hK (h1.one ha) 0 t0 rfl ht hin hdg (kk H locs h1 h2 h3)
theorem z_alen (C : zC p l s m c D aC b0 own cc nL) (t0 : Nat) {ty : FieldType} {x : vp_A} (ht : (zT aC)[t0]? = some (aC t0, ty)) (ha : M a = some (.inl (aC t0, x))) {v : Int32} (hv : Int32.ofNat x.1 = v) (hdg : decode cc pc = .ok (.arraylength, 1))
    (kk : Z p l e R s m args below meth c D b0 M sz cells slots Q (F0 m (pc + 1) ls (.int v :: rest))) : Z p l e R s m args below meth c D b0 M sz cells slots Q (F0 m pc ls (.ref a :: rest)) := by
  obtain ⟨hx, hb, -, hown, -, hK, hg, -⟩ := C
  exact fun H locs h1 h2 h3 => va_alen (D := D) hx hb hK (h1.one ha) 0 t0 rfl ht hv hdg (kk H locs h1 h2 h3)
theorem z_iast (C : zC p l s m c D aC b0 own cc nL) {n : Nat} {f : Nat → Int32} {i x : Int32} (ha : M a = some (.inl (aC 0, n, .inl f))) (hin : vp_in i n) (hdg : decode cc pc = .ok (.iastore, 1))
    (kk : Z p l e R s m args below meth c D b0 (zup M a (.inl (aC 0, n, .inl (upd f i.toNatClampNeg x)))) sz cells slots Q (F0 m (pc + 1) ls rest)) : Z p l e R s m args below meth c D b0 M sz cells slots Q (F0 m pc ls (.int x :: .int i :: .ref a :: rest)) := by
  obtain ⟨hx, hb, -, hown, -, hK, hg, -⟩ := C
  intro H locs h1 h2 h3
  obtain ⟨hb1, hc1⟩ := h1 a _ ha
  refine W.iast hx hb hc1 ((hK.2 0 _ rfl).1 n (fun j => .int (f j))) (fun q => by cases q) (by show ¬ (i < 0 ∨ (arrV _ _ _).slots.size ≤ _); rw [arrV_size]; exact hin) rfl rfl hdg fun H1 e z oq => ?_
  refine kk H1 _ (h1.set ha ?_ oq) (z.trans h2) (h3.put z oq hb1)
  show H1[a]? = some (vp_cell _ _)
  rw [e, vp_cell_i, vp_cell_i, arrV_store]
  congr 2
  funext q
  by_cases hq : q = i.toNatClampNeg
  · subst hq
    simp [updV, upd]
  · simp [updV, upd, hq]
theorem z_zast (C : zC p l s m c D aC b0 own cc nL) {n : Nat} {f : Nat → Int32} {i x : Int32} (ha : M a = some (.inl (aC 1, n, .inl f))) (hin : vp_in i n) (hx1 : narrow .boolean (.int x) = .int x) (hdg : decode cc pc = .ok (.bastore, 1))
    (kk : Z p l e R s m args below meth c D b0 (zup M a (.inl (aC 1, n, .inl (upd f i.toNatClampNeg x)))) sz cells slots Q (F0 m (pc + 1) ls rest)) : Z p l e R s m args below meth c D b0 M sz cells slots Q (F0 m pc ls (.int x :: .int i :: .ref a :: rest)) := by
  obtain ⟨hx, hb, -, hown, -, hK, hg, -⟩ := C
  intro H locs h1 h2 h3
  obtain ⟨hb1, hc1⟩ := h1 a _ ha
  refine W.zast hx hb hc1 ((hK.2 1 _ rfl).1 n (fun j => .int (f j))) (fun q => by cases q) (by show ¬ (i < 0 ∨ (arrV _ _ _).slots.size ≤ _); rw [arrV_size]; exact hin) rfl rfl hdg fun H1 e z oq => ?_
  refine kk H1 _ (h1.set ha ?_ oq) (z.trans h2) (h3.put z oq hb1)
  show H1[a]? = some (vp_cell _ _)
  rw [e, hx1, vp_cell_i, vp_cell_i, arrV_store]
  congr 2
  funext q
  by_cases hq : q = i.toNatClampNeg
  · subst hq
    simp [updV, upd]
  · simp [updV, upd, hq]
theorem z_aast (C : zC p l s m c D aC b0 own cc nL) (t0 : Nat) {r : vw_C} {n v ci : Nat} {vs : List Value} {f : Nat → Option Nat} {i : Int32} (ht : (zT aC)[t0]? = some (aC t0, .object r.1)) (ha : M a = some (.inl (aC t0, n, .inr (.inr (.inr (.inr f)))))) (hv : M v = some (.inr (ci, vs))) (hc : vwCl[ci]? = some r) (hin : vp_in i n) (hdg : decode cc pc = .ok (.aastore, 1))
    (kk : Z p l e R s m args below meth c D b0 (zup M a (.inl (aC t0, n, .inr (.inr (.inr (.inr (va_up f i.toNatClampNeg (some v)))))))) sz cells slots Q (F0 m (pc + 1) ls rest)) : Z p l e R s m args below meth c D b0 M sz cells slots Q (F0 m pc ls (.ref v :: .int i :: .ref a :: rest)) := by
  obtain ⟨hx, hb, -, hown, -, hK, hg, -⟩ := C
  intro H locs h1 h2 h3
  obtain ⟨hb1, hc1⟩ := h1 a _ ha
  have hlt : i.toNatClampNeg < n := Nat.not_le.mp fun q => hin (Or.inr q)
  have h0 : ¬ i < 0 := fun q => hin (Or.inl q)
  obtain ⟨r', hr', cellV, g1, g2, g3, -⟩ := (h1 v _ hv).2
  have hcls := (hK.1 ci r hc).2
  obtain ⟨kA, comp, k1, k2, k3, -⟩ := (hK.2 t0 _ ht).2
  have hcomp : comp = D.1 ci := Option.some.inj (k3.symm.trans hcls.1)
  subst hcomp
  obtain ⟨kC, hkC, -⟩ := hcls.2
  refine W.aast hx hb hc1 (fun q h => by cases h) (fun h => by cases h) k1 k2 rfl hkC ⟨h0, by show _ < (arrV _ _ _).slots.size; rw [arrV_size]; exact hlt⟩ g1 (fun q h => by rw [g3] at h; cases h) (by rw [g2]; exact hkC) (by rw [g2]; exact va_assign hcls) rfl rfl hdg fun H1 e z oq => ?_
  refine kk H1 _ (h1.set ha ?_ oq) (z.trans h2) (h3.put z oq hb1)
  show H1[a]? = some (vp_cell _ _)
  rw [e, vp_cell_q, vp_cell_q, arrV_store]
  congr 2
  funext q
  by_cases hq : q = i.toNatClampNeg
  · subst hq
    simp [updV, va_up, va_rf]
  · simp [updV, va_up, hq]
end ZR2
end
section
section ZR3
variable {p : Program} {l : Launch} {e : Env} {R : Room} {s : State} {m : MethodId} {args : Array Value} {below : List Frame} {meth : Method} {c : Code} {D : va_G} {aC : Nat → ClassId} {b0 : Nat} {M : ZM} {sz cells slots : Nat} {Q : State → Prop} {own : String} {cc : ByteArray} {nL pc : Nat} {ls : Array Slot} {rest : List Value} {a : Nat}
theorem zS_push {A : Nat → Prop} {H0 H H1 : Heap} {locs : List Loc} (h : va_S A H0 H locs) (hz : H1.size = H.size + 1) (o1 : ∀ q : Nat, q < H.size → H1[q]? = H[q]?) : va_S A H0 H1 locs :=
  ⟨Nat.le_trans h.1 (by omega), fun x h1 h2 => (o1 x (Nat.lt_of_lt_of_le h1 h.1)).trans (h.2.1 x h1 h2), h.2.2⟩
theorem zC.low (C : zC p l s m c D aC b0 own cc nL) {H : Heap} {locs : List Loc} (h : va_S (zA b0) s.heap H locs) : b0 ≤ H.size := Nat.le_trans C.2.2.2.2.2.2.2.2.2 h.1
/-- a class that can be made -/
def zNw (own : String) (idx ci N : Nat) (fs : List Value) : Prop := ∃ (C : String) (T : u_T) (ty : Nat → FieldType), vwCl[ci]? = some (C, T, N) ∧ (∀ w ∈ u_ws C T N, w ∈ zW) ∧ (∀ k, k < N → parseFieldDescriptor (T k).2.2.1 = some (ty k)) ∧ Cond.classLink own idx C ∈ zW ∧ Cond.instantiable C N ∈ zW ∧ Cond.initialized C ∈ zW ∧ ∀ j, j < N → defaultValue (ty j) = vp_V fs j
theorem z_new (C : zC p l s m c D aC b0 own cc nL) {idx ci N : Nat} {fs : List Value} (F : zNw own idx ci N fs) (hcells : cells + 1 ≤ R.cells) (hslots : slots + N ≤ R.slots) (hdg : decode cc pc = .ok (.new idx, 3))
    (kk : Z p l e R s m args below meth c D b0 (zup M sz (.inr (ci, fs))) (sz + 1) (cells + 1) (slots + N) Q (F0 m (pc + 3) ls (.ref sz :: rest))) : Z p l e R s m args below meth c D b0 M sz cells slots Q (F0 m pc ls rest) := by
  intro H locs h1 h2 h3
  have hlow := C.low h3
  obtain ⟨hx, hb, -, hown, -, hK, hg, -⟩ := C
  obtain ⟨Cn, T, ty, hc, hin, hty, hcl, hins, hini, hfs⟩ := F
  have hts : ∀ w ∈ zW, w.before args s = true := fun w hw => zg_w hg hw
  have hKn := hK.1 ci _ hc
  refine W.newcK hx hb hown (hts _ hcl) (hts _ hins) (hts _ hini) rfl hdg hcells hslots hKn.2.1 h2 fun H1 kC hkC e1 z1 o1 => ?_
  subst h2
  exact kk H1 locs (h1.push rfl hlow ⟨_, hc, (u_born ty hts hin hKn hkC e1 hty).to hfs⟩ o1) z1 (zS_push h3 z1 o1)
theorem z_newa (C : zC p l s m c D aC b0 own cc nL) (t0 : Nat) {atype : ArrayType} {n : Int32} {N' : Nat} {a0 : vp_A} (ht : (zT aC)[t0]? = some (aC t0, newarray.typeOf atype)) (hw : Cond.arrayClass (newarray.typeOf atype) ∈ zW) (hpr : ∀ (U : State) (cA : ClassId), va_RA U cA (newarray.typeOf atype) = (U.vm.findClass ("[" ++ (newarray.typeOf atype).toString) = some cA)) (ha : ∀ cA : ClassId, vp_cell cA a0 = arrV cA N' (fun _ => defaultValue (newarray.typeOf atype))) (hn : ¬ n < 0) (hN : n.toNatClampNeg = N') (hbytes : N' * componentBytes (newarray.typeOf atype) ≤ 536870912) (hcells : cells + 1 ≤ R.cells) (hslots : slots + N' ≤ R.slots) (hdg : decode cc pc = .ok (.newarray atype, 2))
    (kk : Z p l e R s m args below meth c D b0 (zup M sz (.inl (aC t0, a0))) (sz + 1) (cells + 1) (slots + N') Q (F0 m (pc + 2) ls (.ref sz :: rest))) : Z p l e R s m args below meth c D b0 M sz cells slots Q (F0 m pc ls (.int n :: rest)) := by
  intro H locs h1 h2 h3
  have hlow := C.low h3
  obtain ⟨hx, hb, -, hown, -, hK, hg, -⟩ := C
  refine va_newaK hx hb (zg_w hg hw) rfl hdg rfl hn hN hbytes hcells hslots h2 fun H1 cA e1 z1 o1 hA hf => ?_
  subst h2
  have hcA : cA = aC t0 := by
    have h9 := (hK.2 t0 _ ht).2
    rw [hpr] at h9
    exact Option.some.inj (hf.symm.trans h9)
  subst hcA
  exact kk H1 locs (h1.push rfl hlow (by show H1[Array.size H]? = some (vp_cell _ _); rw [ha]; exact e1) o1) z1 (zS_push h3 z1 o1)
theorem z_newq (C : zC p l s m c D aC b0 own cc nL) (t0 : Nat) {Cn : String} {idx : Nat} {n : Int32} {N' : Nat} (ht : (zT aC)[t0]? = some (aC t0, .object Cn)) (hC : Cn ∈ [RX1, RX2, RX5]) (hcl : Cond.classLink own idx Cn ∈ zW) (hn : ¬ n < 0) (hN : n.toNatClampNeg = N') (hbytes : N' * 4 ≤ 536870912) (hcells : cells + 1 ≤ R.cells) (hslots : slots + N' ≤ R.slots) (hdg : decode cc pc = .ok (.anewarray idx, 3))
    (kk : Z p l e R s m args below meth c D b0 (zup M sz (.inl (aC t0, N', .inr (.inr (.inr (.inr (fun _ => none))))))) (sz + 1) (cells + 1) (slots + N') Q (F0 m (pc + 3) ls (.ref sz :: rest))) : Z p l e R s m args below meth c D b0 M sz cells slots Q (F0 m pc ls (.int n :: rest)) := by
  intro H locs h1 h2 h3
  have hlow := C.low h3
  obtain ⟨hx, hb, -, hown, -, hK, hg, -⟩ := C
  subst hN
  refine W.anew hx hb hown (zg_w hg hcl) (va_AO.use (hg.2.2.1 Cn hC)) rfl hdg rfl hn hbytes hcells hslots fun cA kA comp f1 f2 f3 f4 => ?_
  subst h2
  have hcA : cA = aC t0 := by
    obtain ⟨_, _, -, -, -, h9⟩ := (hK.2 t0 _ ht).2
    exact Option.some.inj (f1.symm.trans h9)
  subst hcA
  generalize hH1 : H.push ({ cls := aC t0, slots := Array.replicate n.toNatClampNeg .null, vm := .none } : Cell) = H1
  have z1 : H1.size = H.size + 1 := by rw [← hH1, Array.size_push]
  have e1 : H1[H.size]? = some (arrV (aC t0) n.toNatClampNeg (fun _ => .null)) := by rw [← hH1, Array.getElem?_push_size, ← arrV_new]
  have o1 : ∀ q : Nat, q < H.size → H1[q]? = H[q]? := fun q hq => by rw [← hH1, Array.getElem?_push, if_neg (Nat.ne_of_lt hq)]
  exact kk H1 locs (h1.push rfl hlow (by show H1[Array.size H]? = some (vp_cell _ _); rw [vp_cell_q]; exact e1) o1) z1 (zS_push h3 z1 o1)
/-- the pool of a map -/
theorem zM.pool {H : Heap} (h : zM D b0 M H) : ∃ (L : List Nat) (f : Nat → va_E), (∀ q e, M q = some e → q ∈ L ∧ f q = e) ∧ (∀ q ∈ L, b0 ≤ q) ∧ va_P D vwCl ([] ++ va_pl L f) H ∧ va_D (zA b0) ([] ++ va_pl L f) := by
  refine ⟨(List.range H.size).filter (fun q => (M q).isSome), fun q => (M q).getD (.inr (0, [])), fun q e hq => ⟨List.mem_filter.mpr ⟨List.mem_range.mpr (h.lt hq), by rw [hq]; rfl⟩, by simp [hq]⟩, fun q hq => ?_, fun k q hk => ?_, ?_, fun k q hk => ?_⟩
  · obtain ⟨e, he⟩ := Option.isSome_iff_exists.mp (List.mem_filter.mp hq).2
    exact (h q e he).1
  · have hm := List.mem_of_getElem? hk
    rw [List.nil_append, va_pl, List.mem_map] at hm
    obtain ⟨x, hx, rfl⟩ := hm
    obtain ⟨e, he⟩ := Option.isSome_iff_exists.mp (List.mem_filter.mp hx).2
    rw [he]
    exact (h x e he).2
  · intro i j p q hi hj hpq
    rw [List.nil_append, va_pl, List.getElem?_map, Option.map_eq_some_iff] at hi hj
    obtain ⟨x, hx, rfl⟩ := hi
    obtain ⟨y, hy, rfl⟩ := hj
    dsimp only at hpq
    subst hpq
    have hnd : List.Pairwise (fun a b : Nat => a ≠ b) ((List.range H.size).filter (fun q => (M q).isSome)) := List.Pairwise.filter _ List.nodup_range
    obtain ⟨hi1, hi2⟩ := List.getElem?_eq_some_iff.mp hx
    obtain ⟨hj1, hj2⟩ := List.getElem?_eq_some_iff.mp hy
    rcases Nat.lt_trichotomy i j with h9 | h9 | h9
    · exact absurd (hi2.trans hj2.symm) (List.pairwise_iff_getElem.mp hnd i j hi1 hj1 h9)
    · exact h9
    · exact absurd (hj2.trans hi2.symm) (List.pairwise_iff_getElem.mp hnd j i hj1 hi1 h9)
  · have hm := List.mem_of_getElem? hk
    rw [List.nil_append, va_pl, List.mem_map] at hm
    obtain ⟨x, hx, rfl⟩ := hm
    obtain ⟨e, he⟩ := Option.isSome_iff_exists.mp (List.mem_filter.mp hx).2
    exact (h x e he).1
/-- System.arraycopy of ints -/
theorem z_copy (C : zC p l s m c D aC b0 own cc nL) (hml : ls.size = nL) {idx a1 n0 n1 : Nat} {f g : Nat → Int32} {sp dp n : Int32} (hlk : Cond.methodLink own idx arraycopyName ∈ zW) (h0 : M a1 = some (.inl (aC 0, n0, .inl f))) (h1 : M a = some (.inl (aC 0, n1, .inl g))) (k1 : ¬ sp < 0) (k2 : ¬ dp < 0) (k3 : ¬ n < 0) (k4 : sp.toNatClampNeg + n.toNatClampNeg ≤ n0) (k5 : dp.toNatClampNeg + n.toNatClampNeg ≤ n1)
    (hfr : 1 ≤ R.frames) (hlo : (rest.map fun v => v.category).sum + 200 ≤ R.locals) (hdg : decode cc pc = .ok (.invokestatic idx, 3))
    (kk : ∀ sz' : Nat, Z p l e R s m args below meth c D b0 (zup M a (.inl (aC 0, n1, .inl (va_cpy f g sp.toNatClampNeg dp.toNatClampNeg n.toNatClampNeg)))) sz' cells slots Q (F0 m (pc + 3) ls rest)) : Z p l e R s m args below meth c D b0 M sz cells slots Q (F0 m pc ls (.int n :: .int dp :: .ref a :: .int sp :: .ref a1 :: rest)) := by
  obtain ⟨hx, hb, hml2, hown, -, hK, hg, -⟩ := C
  intro H locs q1 q2 q3
  obtain ⟨L, F, hL, hbL, hP, hD⟩ := q1.pool
  obtain ⟨i0, e0⟩ := hL _ _ h0
  obtain ⟨i1, e1⟩ := hL _ _ h1
  obtain ⟨j0, hj0⟩ := va_pl_get (X := []) (f := F) i0
  obtain ⟨j1, hj1⟩ := va_pl_get (X := []) (f := F) i1
  refine va_copyi (D := D) hx hb (hml2.trans hml.symm) hown (zg_w hg hlk) (zg_w hg (w := .native arraycopyName) (by decide +kernel)) (zg_w hg (w := .static arraycopyName) (by decide +kernel)) (zg_w hg (w := .initialized "java/lang/System") (by decide +kernel)) hK hP hD q3 j0 j1 0 0 (hj0.trans (by rw [e0])) (hj1.trans (by rw [e1])) rfl rfl rfl k1 k2 k3 k4 k5 (fun _ _ => rfl) hfr (Nat.le_trans (Nat.add_le_add_left (by decide +kernel) _) hlo) hdg (fun H1 locs1 hP1 hD1 hS1 => ?_)
  rw [va_pl_set hD i1 hj1] at hP1
  refine kk H1.size H1 locs1 (fun q e hq => ?_) rfl hS1
  by_cases hqa : q = a
  · subst hqa
    rw [zup_self] at hq
    cases hq
    obtain ⟨j2, hj2⟩ := va_pl_get (X := []) (f := va_up F q (.inl (aC 0, n1, .inl (va_cpy f g sp.toNatClampNeg dp.toNatClampNeg n.toNatClampNeg)))) i1
    have h9 := hP1 _ _ hj2
    rw [va_up_self] at h9
    exact ⟨hbL _ i1, h9⟩
  · rw [zup_ne _ _ hqa] at hq
    obtain ⟨i2, e2⟩ := hL _ _ hq
    obtain ⟨j2, hj2⟩ := va_pl_get (X := []) (f := va_up F a (.inl (aC 0, n1, .inl (va_cpy f g sp.toNatClampNeg dp.toNatClampNeg n.toNatClampNeg)))) i2
    have h9 := hP1 _ _ hj2
    rw [va_up_ne _ _ hqa, e2] at h9
    exact ⟨hbL _ i2, h9⟩
end ZR3
end
section
section ZR4
variable {p : Program} {l : Launch} {e : Env} {R : Room} {s : State} {m : MethodId} {args : Array Value} {below : List Frame} {meth : Method} {c : Code} {D : va_G} {aC : Nat → ClassId} {b0 : Nat} {M : ZM} {sz cells slots : Nat} {Q : State → Prop} {own : String} {cc : ByteArray} {nL pc : Nat} {ls : Array Slot} {rest : List Value} {a : Nat}
/-- what a call asks of the tables: by the method's own link, or as a nest mate -/
def zLk (own : String) (idx : Nat) (y : MethodName) (cy : ByteArray) (maxL : Nat) (ret : Option FieldType) (n : Nat) : Prop :=
  (y.cls ≠ "java/lang/invoke/MethodHandle" ∧ y.cls ≠ "java/lang/invoke/VarHandle" ∧ (parseMethodDescriptor y.desc).map (fun d => d.parameters.length) = some n) ∧ Cond.code y cy maxL ret ∈ zW ∧ Cond.initialized y.cls ∈ zW ∧ (Cond.methodLink own idx y ∈ zW ∨ ∃ host : String, Cond.methodLinkNest own idx y host ∈ zN)
def zLkV (own : String) (idx : Nat) (y : MethodName) (cy : ByteArray) (maxL : Nat) (ret : Option FieldType) (n : Nat) : Prop := zLk own idx y cy maxL ret n ∧ Cond.instanceMethod y ∈ zW ∧ Cond.selects y.cls y y ∈ zW
def zLkS (own : String) (idx : Nat) (y : MethodName) (cy : ByteArray) (maxL : Nat) (ret : Option FieldType) (n : Nat) : Prop := zLk own idx y cy maxL ret n ∧ Cond.static y ∈ zW
def zLkI (own : String) (idx : Nat) (y : MethodName) (cy : ByteArray) (maxL n : Nat) : Prop := zLk own idx y cy maxL none n ∧ y.name = "<init>" ∧ Cond.instanceMethod y ∈ zW
theorem z_pre (C : zC p l s m c D aC b0 own cc nL) {H : Heap} {locs : List Loc} (h1 : zM D b0 M H) (h2 : H.size = sz) (h3 : va_S (zA b0) s.heap H locs) (av : List Value) : PreS s H (zPc l D aC b0 av M sz) av :=
  ⟨zPc_blind, fun U hU hW => ⟨rfl, zG_to C.2.2.2.2 hW (by rw [hU]; exact h3.1) (fun q a1 a2 => by rw [hU]; exact h3.2.1 q a1 a2), by rw [hU]; exact h1, by rw [hU]; exact h2⟩⟩
theorem z_one {y : MethodName} {cy : ByteArray} {maxL : Nat} {ret : Option FieldType} {ws : List Cond} (hg : zg s) (hc : Cond.code y cy maxL ret ∈ zW) (hw : ws = [.code y cy maxL ret]) : ∀ w ∈ ws, ∀ (a' : Array Value) (U : State), s.WarmedH U.vm → w.before a' U = true := by
  intro w h a' U hW
  rw [hw] at h
  rw [List.mem_singleton.mp h]
  exact word_at hW (good_of_word (zW_good hc)) (hg.1 _ hc)
/-- behind a call that has come back -/
theorem z_back {g0 : JFrame} {mc ms pc' : Nat} {P : Option Value → ZM → Nat → Prop} {H : Heap} {locs : List Loc} {av : Array Value} (h3 : va_S (zA b0) s.heap H locs) (hg0 : g0 = F0 m pc ls g0.stack) (hp : pc' = pc + 3)
    (hr : va_Run p l e R s m args below meth c H locs cells slots mc ms g0 rest (zQc D b0 P av) (zA b0))
    (kk : ∀ (r : Option Value) (M' : ZM) (sz' : Nat), P r M' sz' → Z p l e R s m args below meth c D b0 M' sz' (cells + mc) (slots + ms) Q (F0 m pc' ls (r.toList ++ rest))) : W p l e R s m args below meth c H locs cells slots Q g0 := by
  intro T hT X
  obtain ⟨v, st₀, t, T', L, h0, X', hL, e1, e2, ⟨⟨r, M', sz', hv, hP, hM, hz⟩, hf1, hf2⟩, st⟩ := hr T hT X
  cases hv
  rw [h0] at hf1 hf2
  obtain ⟨t2, a1, b1⟩ := kk v M' sz' hP T'.heap (locs ++ L) (by rw [e1]; exact hM) (by rw [e1]; exact hz)
    ⟨Nat.le_trans h3.1 (by rw [e1]; exact hf1), fun q a1 a2 => by rw [e1, hf2 q (Nat.lt_of_lt_of_le a1 h3.1) a2]; exact h3.2.1 q a1 a2, fun q hq => by
      rcases List.mem_append.mp hq with h | h
      · exact h3.2.2 q h
      · exact hL q h⟩ T' rfl X'
  refine ⟨t2, st t2 ?_, b1⟩
  subst hp
  rw [hg0]
  exact a1
theorem z_callV (C : zC p l s m c D aC b0 own cc nL) (hml : ls.size = nL) {idx : Nat} {y : MethodName} {cy : ByteArray} {maxL n nv mc ms ci : Nat} {ret : Option FieldType} {As fs : List Value} {P : Option Value → ZM → Nat → Prop} {st : List Value} {T : u_T} {N : Nat} (F : zLkV own idx y cy maxL ret n)
    (hM : Ct l D aC b0 y cy maxL ret nv mc ms (.ref a :: As) M sz P) (ha : M a = some (.inr (ci, fs))) (hci : vwCl[ci]? = some (y.cls, T, N)) (hn : As.length = n) (hst : st = As.reverse ++ .ref a :: rest) (hW : (rest.map fun v => v.category).sum ≤ 8)
    (hR : 20 * nv + 21 ≤ R.frames ∧ maxL + (200 * nv + 219) ≤ R.locals ∧ cells + mc ≤ R.cells ∧ slots + ms ≤ R.slots) (hdg : decode cc pc = .ok (.invokevirtual idx, 3))
    (kk : ∀ (r : Option Value) (M' : ZM) (sz' : Nat), P r M' sz' → Z p l e R s m args below meth c D b0 M' sz' (cells + mc) (slots + ms) Q (F0 m (pc + 3) ls (r.toList ++ rest))) : Z p l e R s m args below meth c D b0 M sz cells slots Q (F0 m pc ls st) := by
  intro H locs h1 h2 h3
  have hpre := z_pre C h1 h2 h3 (.ref a :: As)
  obtain ⟨hx, hb, hml2, hown, -, hK, hg, -⟩ := C
  obtain ⟨⟨hd, hcode, hini, hlk⟩, hinst, hsel⟩ := F
  subst hst
  have hts : ∀ w ∈ zW, w.before args s = true := fun w hw => zg_w hg hw
  have hrecv := va_recv (D := D) (cl := vwCl) (tys := zT aC) hK (h1.one ha) hci (q0 := 0) rfl
  have hlen : ∀ sig, parseMethodDescriptor y.desc = some sig → n = sig.parameters.length := fun sig h => by
    have h9 := hd.2.2
    rw [h] at h9
    exact (Option.some.inj h9).symm
  refine z_back (av := (Value.ref a :: As).toArray) h3 rfl rfl ?_ kk
  rcases hlk with hlk | ⟨host, hlk⟩
  · exact va_runV (Ts := zW) ⟨hx, hb, hml2, hown, hts⟩ hM ⟨⟨rfl, rfl, by show 20 * nv + 20 + 1 ≤ _; omega, by show 8 + (maxL + 11) + (200 * nv + 200) ≤ _; omega, z_one hg hcode rfl, List.mem_singleton.mpr rfl, hts _ hcode, hts _ hini, ⟨hd.1, hd.2.1⟩, hlen, hts _ hlk⟩, hts _ hinst, hts _ hsel⟩ ⟨hpre.1, hrecv, hpre.2⟩ rfl hn hml rfl (by show 2 * 0 + _ ≤ 8; omega) hdg ⟨hR.2.2.1, hR.2.2.2⟩
  · exact va_runVN (Ts := zW) ⟨hx, hb, hml2, hown, hts⟩ hM ⟨⟨⟨rfl, rfl, by show 20 * nv + 20 + 1 ≤ _; omega, by show 8 + (maxL + 11) + (200 * nv + 200) ≤ _; omega, z_one hg hcode rfl, List.mem_singleton.mpr rfl⟩, hts _ hcode, hts _ hini, ⟨hd.1, hd.2.1⟩, hlen, zg_n hg hlk⟩, hts _ hinst, hts _ hsel⟩ ⟨hpre.1, hrecv, hpre.2⟩ rfl hn hml rfl (by show 2 * 0 + _ ≤ 8; omega) hdg ⟨hR.2.2.1, hR.2.2.2⟩
theorem z_callS (C : zC p l s m c D aC b0 own cc nL) (hml : ls.size = nL) {idx : Nat} {y : MethodName} {cy : ByteArray} {maxL n nv mc ms : Nat} {ret : Option FieldType} {As : List Value} {P : Option Value → ZM → Nat → Prop} {st : List Value} (F : zLkS own idx y cy maxL ret n)
    (hM : Ct l D aC b0 y cy maxL ret nv mc ms As M sz P) (hn : As.length = n) (hst : st = As.reverse ++ rest) (hW : (rest.map fun v => v.category).sum ≤ 8)
    (hR : 20 * nv + 21 ≤ R.frames ∧ maxL + (200 * nv + 219) ≤ R.locals ∧ cells + mc ≤ R.cells ∧ slots + ms ≤ R.slots) (hdg : decode cc pc = .ok (.invokestatic idx, 3))
    (kk : ∀ (r : Option Value) (M' : ZM) (sz' : Nat), P r M' sz' → Z p l e R s m args below meth c D b0 M' sz' (cells + mc) (slots + ms) Q (F0 m (pc + 3) ls (r.toList ++ rest))) : Z p l e R s m args below meth c D b0 M sz cells slots Q (F0 m pc ls st) := by
  intro H locs h1 h2 h3
  have hpre := z_pre C h1 h2 h3 As
  obtain ⟨hx, hb, hml2, hown, -, hK, hg, -⟩ := C
  obtain ⟨⟨hd, hcode, hini, hlk⟩, hstt⟩ := F
  subst hst
  have hts : ∀ w ∈ zW, w.before args s = true := fun w hw => zg_w hg hw
  have hlen : ∀ sig, parseMethodDescriptor y.desc = some sig → n = sig.parameters.length := fun sig h => by
    have h9 := hd.2.2
    rw [h] at h9
    exact (Option.some.inj h9).symm
  refine z_back (av := As.toArray) h3 rfl rfl ?_ kk
  rcases hlk with hlk | ⟨host, hlk⟩
  · exact va_runS (Ts := zW) ⟨hx, hb, hml2, hown, hts⟩ hM ⟨⟨rfl, rfl, by show 20 * nv + 20 + 1 ≤ _; omega, by show 8 + (maxL + 11) + (200 * nv + 200) ≤ _; omega, z_one hg hcode rfl, List.mem_singleton.mpr rfl, hts _ hcode, hts _ hini, ⟨hd.1, hd.2.1⟩, hlen, hts _ hlk⟩, hts _ hstt⟩ hpre rfl hn hml rfl (by show 2 * 0 + _ ≤ 8; omega) hdg ⟨hR.2.2.1, hR.2.2.2⟩
  · exact va_runSN (Ts := zW) ⟨hx, hb, hml2, hown, hts⟩ hM ⟨⟨⟨rfl, rfl, by show 20 * nv + 20 + 1 ≤ _; omega, by show 8 + (maxL + 11) + (200 * nv + 200) ≤ _; omega, z_one hg hcode rfl, List.mem_singleton.mpr rfl⟩, hts _ hcode, hts _ hini, ⟨hd.1, hd.2.1⟩, hlen, zg_n hg hlk⟩, hts _ hstt, trivial⟩ hpre rfl hn hml rfl (by show 2 * 0 + _ ≤ 8; omega) hdg ⟨hR.2.2.1, hR.2.2.2⟩
theorem z_callI (C : zC p l s m c D aC b0 own cc nL) (hml : ls.size = nL) {idx : Nat} {y : MethodName} {cy : ByteArray} {maxL n nv mc ms : Nat} {As : List Value} {P : Option Value → ZM → Nat → Prop} {st : List Value} (F : zLkI own idx y cy maxL n)
    (hM : Ct l D aC b0 y cy maxL none nv mc ms (.ref a :: As) M sz P) (hn : As.length = n) (hst : st = As.reverse ++ .ref a :: rest) (hW : (rest.map fun v => v.category).sum ≤ 8)
    (hR : 20 * nv + 21 ≤ R.frames ∧ maxL + (200 * nv + 219) ≤ R.locals ∧ cells + mc ≤ R.cells ∧ slots + ms ≤ R.slots) (hdg : decode cc pc = .ok (.invokespecial idx, 3))
    (kk : ∀ (r : Option Value) (M' : ZM) (sz' : Nat), P r M' sz' → Z p l e R s m args below meth c D b0 M' sz' (cells + mc) (slots + ms) Q (F0 m (pc + 3) ls (r.toList ++ rest))) : Z p l e R s m args below meth c D b0 M sz cells slots Q (F0 m pc ls st) := by
  intro H locs h1 h2 h3
  have hpre := z_pre C h1 h2 h3 (.ref a :: As)
  obtain ⟨hx, hb, hml2, hown, -, hK, hg, -⟩ := C
  obtain ⟨⟨hd, hcode, hini, hlk⟩, hyi, hinst⟩ := F
  subst hst
  have hts : ∀ w ∈ zW, w.before args s = true := fun w hw => zg_w hg hw
  have hlen : ∀ sig, parseMethodDescriptor y.desc = some sig → n = sig.parameters.length := fun sig h => by
    have h9 := hd.2.2
    rw [h] at h9
    exact (Option.some.inj h9).symm
  refine z_back (av := (Value.ref a :: As).toArray) h3 rfl rfl ?_ kk
  rcases hlk with hlk | ⟨host, hlk⟩
  · exact va_runI (Ts := zW) ⟨hx, hb, hml2, hown, hts⟩ hM ⟨⟨rfl, rfl, by show 20 * nv + 20 + 1 ≤ _; omega, by show 8 + (maxL + 11) + (200 * nv + 200) ≤ _; omega, z_one hg hcode rfl, List.mem_singleton.mpr rfl, hts _ hcode, hts _ hini, ⟨hd.1, hd.2.1⟩, hlen, hts _ hlk⟩, hyi, hts _ hinst⟩ hpre rfl hn hml rfl (by show 2 * 0 + _ ≤ 8; omega) hdg ⟨hR.2.2.1, hR.2.2.2⟩
  · exact va_runIN (Ts := zW) ⟨hx, hb, hml2, hown, hts⟩ hM ⟨⟨⟨rfl, rfl, by show 20 * nv + 20 + 1 ≤ _; omega, by show 8 + (maxL + 11) + (200 * nv + 200) ≤ _; omega, z_one hg hcode rfl, List.mem_singleton.mpr rfl⟩, hts _ hcode, hts _ hini, ⟨hd.1, hd.2.1⟩, hlen, zg_n hg hlk⟩, hyi, hts _ hinst⟩ hpre rfl hn hml rfl (by show 2 * 0 + _ ≤ 8; omega) hdg ⟨hR.2.2.1, hR.2.2.2⟩
/-- Object.<init> -/
theorem z_obj (C : zC p l s m c D aC b0 own cc nL) (hml : ls.size = nL) {idx : Nat} (hlk : Cond.methodLink own idx objectInit ∈ zW) (hfr : 1 ≤ R.frames) (hlo : (rest.map fun v => v.category).sum + 12 ≤ R.locals) (hdg : decode cc pc = .ok (.invokespecial idx, 3))
    (kk : Z p l e R s m args below meth c D b0 M sz cells slots Q (F0 m (pc + 3) ls rest)) : Z p l e R s m args below meth c D b0 M sz cells slots Q (F0 m pc ls (.ref a :: rest)) := by
  intro H locs h1 h2 h3
  obtain ⟨hx, hb, hml2, hown, -, hK, hg, -⟩ := C
  exact W.objInit hx hb hown (zg_w hg hlk) (zg_w hg (w := .instanceMethod objectInit) (by decide +kernel)) (zg_w hg (w := .code objectInit ⟨#[0xb1]⟩ 1 none) (by decide +kernel)) rfl (by rw [hml2]; exact hml) rfl hdg hfr (by show 2 * 0 + _ + 12 ≤ _; omega) (kk H locs h1 h2 h3)
/-- the ends -/
theorem z_ends {P : Option Value → ZM → Nat → Prop} {v : Option Value} (hp : P v M sz) {H : Heap} {locs : List Loc} (h1 : zM D b0 M H) (h2 : H.size = sz) (h3 : va_S (zA b0) s.heap H locs) : ∀ t : State, t.heap = H → s.WarmedH t.vm → zQc D b0 P args s (.returned v) t :=
  fun t ht _ => ⟨⟨v, M, sz, rfl, hp, by rw [ht]; exact h1, by rw [ht]; exact h2⟩, h3.F ht⟩
theorem z_iret (C : zC p l s m c D aC b0 own cc nL) {P : Option Value → ZM → Nat → Prop} {v : Int32} (hr : meth.sig.returnType = some .int) (hlocks : meth.locks = false) (hdg : decode cc pc = .ok (.ireturn, 1)) (hp : P (some (.int v)) M sz) : Z p l e R s m args below meth c D b0 M sz cells slots (MQ below (zQc D b0 P) args s cells slots (zA b0)) (F0 m pc ls [.int v]) :=
  fun _ _ h1 h2 h3 => W.iret (v := v) C.1 C.2.1 hr (z_ends hp h1 h2 h3) h3.2.2 hdg hlocks
theorem z_zret (C : zC p l s m c D aC b0 own cc nL) {P : Option Value → ZM → Nat → Prop} {v : Int32} (hr : meth.sig.returnType = some .boolean) (hn : narrow .boolean (.int v) = .int v) (hlocks : meth.locks = false) (hdg : decode cc pc = .ok (.ireturn, 1)) (hp : P (some (.int v)) M sz) : Z p l e R s m args below meth c D b0 M sz cells slots (MQ below (zQc D b0 P) args s cells slots (zA b0)) (F0 m pc ls [.int v]) :=
  fun _ _ h1 h2 h3 => W.zret (v := v) C.1 C.2.1 hr hn (z_ends hp h1 h2 h3) h3.2.2 hdg hlocks
theorem z_vret (C : zC p l s m c D aC b0 own cc nL) {P : Option Value → ZM → Nat → Prop} (hr : meth.sig.returnType = none) (hlocks : meth.locks = false) (hdg : decode cc pc = .ok (.return_, 1)) (hp : P none M sz) : Z p l e R s m args below meth c D b0 M sz cells slots (MQ below (zQc D b0 P) args s cells slots (zA b0)) (F0 m pc ls []) :=
  fun _ _ h1 h2 h3 => W.vret C.1 C.2.1 hr (z_ends hp h1 h2 h3) h3.2.2 hdg hlocks
theorem z_aret (C : zC p l s m c D aC b0 own cc nL) {P : Option Value → ZM → Nat → Prop} {n : String} (hr : meth.sig.returnType = some (.object n)) (hlocks : meth.locks = false) (hdg : decode cc pc = .ok (.areturn, 1)) (hp : P (some (.ref a)) M sz) : Z p l e R s m args below meth c D b0 M sz cells slots (MQ below (zQc D b0 P) args s cells slots (zA b0)) (F0 m pc ls [.ref a]) :=
  fun _ _ h1 h2 h3 => W.aret C.1 C.2.1 hr (Or.inl ⟨n, rfl⟩) (Or.inr ⟨a, rfl⟩) (z_ends hp h1 h2 h3) h3.2.2 hdg hlocks
end ZR4
/-- a contract out of the walk of the body -/
theorem Ct.of {l : Launch} {D : va_G} {aC : Nat → ClassId} {b0 : Nat} {y : MethodName} {cc : ByteArray} {maxL : Nat} {ret : Option FieldType} {n mc ms : Nat} {av : List Value} {M : ZM} {sz : Nat} {P : Option Value → ZM → Nat → Prop} (hy : plainName y.cls = true) (hlen : (lg_sl av).length ≤ maxL)
    (body : ∀ (p : Program) (e : Env) (s : State) (m : MethodId) (below : List Frame) (meth : Method) (c : Code) (ls : Array Slot), zC p l s m c D aC b0 y.cls cc maxL → meth.sig.returnType = ret → meth.locks = false → meth.name = y.name → lv_has ls maxL (lv_args 0 av) →
      Z p l e (rz n mc ms) s m av.toArray below meth c D b0 M sz 0 0 (MQ below (zQc D b0 P) av.toArray s mc ms (zA b0)) (F0 m 0 ls [])) : Ct l D aC b0 y cc maxL ret n mc ms av M sz P := by
  refine Met.ofW (cc := cc) (maxL := maxL) (ret := ret) hy rfl ?_
  intro p e s m args below meth c s₁ B hml hv
  obtain ⟨rfl, hG, hM, hz⟩ := hv
  have hl := lv_entry av (n := maxL) hlen
  rw [lg_entry_eq]
  generalize (lg_sl av ++ List.replicate (maxL - (lg_sl av).length) Slot.unset).toArray = ls at hl ⊢
  exact body p e s m below meth c ls ⟨B.exec, B.bytes, hml, findClass_of_methodNamed B.named, hG⟩ B.returns B.notSynchronized (name_of_methodNamed B.named B.method).1 hl s.heap [] hM hz va_S.rf
end
section
/-! methods that return or throw -/
def zXc (D : va_G) (b0 : Nat) (PX : String → ZM → Prop) : String → State → State → Prop := fun E st t => (∃ M' : ZM, PX E M' ∧ zM D b0 M' t.heap) ∧ va_F (zA b0) st t
def CtX (l : Launch) (D : va_G) (aC : Nat → ClassId) (b0 : Nat) (y : MethodName) (cc : ByteArray) (maxL : Nat) (ret : Option FieldType) (n mc ms : Nat) (av : List Value) (M : ZM) (sz : Nat) (P : Option Value → ZM → Nat → Prop) (PX : String → ZM → Prop) : Prop :=
  vx_Met l y [.code y cc maxL ret] (rz n mc ms) (zPc l D aC b0 av M sz) (zQc D b0 P) (zXc D b0 PX) mc ms (zA b0)
section ZR5
variable {p : Program} {l : Launch} {e : Env} {R : Room} {s : State} {m : MethodId} {args : Array Value} {below : List Frame} {meth : Method} {c : Code} {D : va_G} {aC : Nat → ClassId} {b0 : Nat} {M : ZM} {sz cells slots : Nat} {Q : State → Prop} {own : String} {cc : ByteArray} {nL pc : Nat} {ls : Array Slot} {rest : List Value} {a : Nat}
theorem z_ret {g : JFrame} {mc ms : Nat} {P : Option Value → ZM → Nat → Prop} {PX : String → ZM → Prop} (h1 : cells ≤ mc) (h2 : slots ≤ ms) (k : Z p l e R s m args below meth c D b0 M sz mc ms (MQ below (zQc D b0 P) args s mc ms (zA b0)) g) : Z p l e R s m args below meth c D b0 M sz cells slots (vx_MQ below (zQc D b0 P) (zXc D b0 PX) args s mc ms (zA b0)) g :=
  fun H locs a1 a2 a3 => W.widen h1 h2 (vx_ret (k H locs a1 a2 a3))
/-- what a throw asks of the tables -/
def zTh (own : String) (ik is ic : Nat) (cls text : String) : Prop := Bundle.fit cls = true ∧ Cond.classLink own ik cls ∈ zW ∧ Cond.initialized cls ∈ zW ∧ (own, is, text) ∈ zStr ∧ (∀ w ∈ vx_atS own ic cls ["java/lang/RuntimeException", "java/lang/Exception"], w ∈ zW ∨ w ∈ zN) ∧ (∀ w ∈ Cond.classLink own ik cls :: Cond.initialized cls :: vx_atS own ic cls ["java/lang/RuntimeException", "java/lang/Exception"], vx_ot w = true)
theorem z_throw (C : zC p l s m c D aC b0 own cc nL) (hml : ls.size = nL) {ik is ic mc ms : Nat} {cls text : String} {P : Option Value → ZM → Nat → Prop} {PX : String → ZM → Prop} (F : zTh own ik is ic cls text) (hnt : ∀ x ∈ c.exceptionTable.toList, False) (hlocks : meth.locks = false)
    (d0 : decode cc pc = .ok (.new ik, 3)) (d3 : decode cc (pc + 3) = .ok (.dup, 1)) (d4 : decode cc (pc + 4) = .ok (.ldc is, 2)) (d6 : decode cc (pc + 6) = .ok (.invokespecial ic, 3)) (d9 : decode cc (pc + 9) = .ok (.athrow, 1))
    (hR : 5 < R.frames ∧ (rest.map fun v => v.category).sum + 82 ≤ R.locals ∧ cells + 1 ≤ R.cells ∧ slots + 6 ≤ R.slots ∧ cells + 1 ≤ mc ∧ slots + 6 ≤ ms) (hp : PX cls M) :
    Z p l e R s m args below meth c D b0 M sz cells slots (vx_MQ below (zQc D b0 P) (zXc D b0 PX) args s mc ms (zA b0)) (F0 m pc ls rest) := by
  intro H locs h1 h2 h3
  obtain ⟨hx, hb, hml2, hown, hl, hK, hg, hU, hN, hlow⟩ := C
  obtain ⟨f1, f2, f3, f4, f5, f6⟩ := F
  obtain ⟨sa, hsa⟩ := hg.2.2.2.1 _ f4
  refine vx_throwS (text := text) (names := ["java/lang/RuntimeException", "java/lang/Exception"]) (A := zA b0) hx hb hl hown f1 (by decide +kernel) (zg_w hg f2) (zg_w hg f3) hsa (fun w hw => (f5 w hw).elim (fun q => zg_w hg q) (fun q => zg_n hg q)) f6 hU hN h3 (hml.trans hml2.symm) d0 d3 d4 d6 d9 (fun x hx9 => (hnt x hx9).elim) hR.1 (by show _ + 82 ≤ _; exact hR.2.1) hR.2.2.1 hR.2.2.2.1 hlocks (fun t _ t1 t2 => ?_) h3.2.2 hR.2.2.2.2.1 hR.2.2.2.2.2
  refine ⟨⟨M, hp, fun q f hq => ⟨(h1 q f hq).1, (h1 q f hq).2.kept (t2 q (h1.lt hq))⟩⟩, Nat.le_trans h3.1 t1, fun q a1 a2 => ?_⟩
  rw [t2 q (Nat.lt_of_lt_of_le a1 h3.1)]
  exact h3.2.1 q a1 a2
/-- behind a call that has come back, or thrown -/
theorem z_backX {g0 : JFrame} {mc ms pc' : Nat} {P : Option Value → ZM → Nat → Prop} {PX : String → ZM → Prop} {H : Heap} {locs : List Loc} {av : Array Value} (h3 : va_S (zA b0) s.heap H locs) (hg0 : g0 = F0 m pc ls g0.stack) (hp : pc' = pc + 3)
    (hr : vx_Run p l e R s m args below meth c H locs cells slots mc ms g0 rest (zQc D b0 P av) (zXc D b0 PX) (zA b0))
    (kx : ∀ (E : String) (M' : ZM), PX E M' → ∀ (H1 : Heap) (locs1 : List Loc) (q9 : Addr) (ce : Cell), zM D b0 M' H1 → va_S (zA b0) s.heap H1 locs1 → H1[q9]? = some ce → ce.vm = .none → s.vm.findClass E = some ce.cls → vx_W p l e R s m args below meth c H1 locs1 (cells + mc) (slots + ms) Q (F0 m pc ls rest) q9)
    (kk : ∀ (r : Option Value) (M' : ZM) (sz' : Nat), P r M' sz' → Z p l e R s m args below meth c D b0 M' sz' (cells + mc) (slots + ms) Q (F0 m pc' ls (r.toList ++ rest))) : W p l e R s m args below meth c H locs cells slots Q g0 := by
  intro T hT X
  rcases hr T hT X with ⟨v, st₀, t, T', L, h0, X', hL, e1, e2, ⟨⟨r, M', sz', hv, hP, hM, hz⟩, hf1, hf2⟩, st⟩ | ⟨q, st₀, t, T', L, E, ce, h0, X', hL, e1, e2, ⟨⟨M', hPX, hM⟩, hf1, hf2⟩, hce, hcv, hcl, st⟩
  · cases hv
    rw [h0] at hf1 hf2
    obtain ⟨t2, a1, b1⟩ := kk v M' sz' hP T'.heap (locs ++ L) (by rw [e1]; exact hM) (by rw [e1]; exact hz)
      ⟨Nat.le_trans h3.1 (by rw [e1]; exact hf1), fun q a1 a2 => by rw [e1, hf2 q (Nat.lt_of_lt_of_le a1 h3.1) a2]; exact h3.2.1 q a1 a2, fun q hq => by
        rcases List.mem_append.mp hq with h | h
        · exact h3.2.2 q h
        · exact hL q h⟩ T' rfl X'
    refine ⟨t2, st t2 ?_, b1⟩
    subst hp
    rw [hg0]
    exact a1
  · rw [h0] at hf1 hf2
    obtain ⟨t2, a1, b1⟩ := kx E M' hPX T'.heap (locs ++ L) q ce (by rw [e1]; exact hM)
      ⟨Nat.le_trans h3.1 (by rw [e1]; exact hf1), fun q a1 a2 => by rw [e1, hf2 q (Nat.lt_of_lt_of_le a1 h3.1) a2]; exact h3.2.1 q a1 a2, fun q hq => by
        rcases List.mem_append.mp hq with h | h
        · exact h3.2.2 q h
        · exact hL q h⟩ (by rw [e1]; exact hce) hcv hcl T' rfl X'
    refine ⟨t2, st.trans ?_, b1⟩
    rw [hg0]
    exact a1
/-- .. what is thrown goes on to the caller -/
theorem z_out {mc ms : Nat} {P : Option Value → ZM → Nat → Prop} {PX : String → ZM → Prop} {E : String} {M' : ZM} (hnt : ∀ x ∈ c.exceptionTable.toList, False) (hlocks : meth.locks = false) (hc : cells ≤ mc) (hs : slots ≤ ms) (hp : PX E M') {H1 : Heap} {locs1 : List Loc} {q9 : Addr} {ce : Cell} (h1 : zM D b0 M' H1) (h3 : va_S (zA b0) s.heap H1 locs1) (hce : H1[q9]? = some ce) (hcv : ce.vm = .none) (hcl : s.vm.findClass E = some ce.cls) :
    vx_W p l e R s m args below meth c H1 locs1 cells slots (vx_MQ below (zQc D b0 P) (zXc D b0 PX) args s mc ms (zA b0)) (F0 m pc ls rest) q9 :=
  vx_out (fun x hx9 => (hnt x hx9).elim) hlocks hce hcv hcl (fun t ht _ => ⟨⟨M', hp, by rw [ht]; exact h1⟩, h3.F ht⟩) h3.2.2 hc hs
theorem z_callVX (C : zC p l s m c D aC b0 own cc nL) (hml : ls.size = nL) {idx : Nat} {y : MethodName} {cy : ByteArray} {maxL n nv mc ms ci : Nat} {ret : Option FieldType} {As fs : List Value} {P : Option Value → ZM → Nat → Prop} {PX : String → ZM → Prop} {st : List Value} {T : u_T} {N : Nat} (F : zLkV own idx y cy maxL ret n) (hlk : Cond.methodLink own idx y ∈ zW)
    (hM : CtX l D aC b0 y cy maxL ret nv mc ms (.ref a :: As) M sz P PX) (ha : M a = some (.inr (ci, fs))) (hci : vwCl[ci]? = some (y.cls, T, N)) (hn : As.length = n) (hst : st = As.reverse ++ .ref a :: rest) (hW : (rest.map fun v => v.category).sum ≤ 8)
    (hR : 20 * nv + 21 ≤ R.frames ∧ maxL + (200 * nv + 219) ≤ R.locals ∧ cells + mc ≤ R.cells ∧ slots + ms ≤ R.slots) (hdg : decode cc pc = .ok (.invokevirtual idx, 3))
    (kx : ∀ (E : String) (M' : ZM), PX E M' → ∀ (H1 : Heap) (locs1 : List Loc) (q9 : Addr) (ce : Cell), zM D b0 M' H1 → va_S (zA b0) s.heap H1 locs1 → H1[q9]? = some ce → ce.vm = .none → s.vm.findClass E = some ce.cls → vx_W p l e R s m args below meth c H1 locs1 (cells + mc) (slots + ms) Q (F0 m pc ls rest) q9)
    (kk : ∀ (r : Option Value) (M' : ZM) (sz' : Nat), P r M' sz' → Z p l e R s m args below meth c D b0 M' sz' (cells + mc) (slots + ms) Q (F0 m (pc + 3) ls (r.toList ++ rest))) : Z p l e R s m args below meth c D b0 M sz cells slots Q (F0 m pc ls st) := by
  intro H locs h1 h2 h3
  have hpre := z_pre C h1 h2 h3 (.ref a :: As)
  obtain ⟨hx, hb, hml2, hown, -, hK, hg, -⟩ := C
  obtain ⟨⟨hd, hcode, hini, -⟩, hinst, hsel⟩ := F
  subst hst
  have hts : ∀ w ∈ zW, w.before args s = true := fun w hw => zg_w hg hw
  have hrecv := va_recv (D := D) (cl := vwCl) (tys := zT aC) hK (h1.one ha) hci (q0 := 0) rfl
  have hlen : ∀ sig, parseMethodDescriptor y.desc = some sig → n = sig.parameters.length := fun sig h => by
    have h9 := hd.2.2
    rw [h] at h9
    exact (Option.some.inj h9).symm
  refine z_backX (av := (Value.ref a :: As).toArray) h3 rfl rfl ?_ kx kk
  exact vx_runV (Ts := zW) ⟨hx, hb, hml2, hown, hts⟩ hM ⟨⟨rfl, rfl, by show 20 * nv + 20 + 1 ≤ _; omega, by show 8 + (maxL + 11) + (200 * nv + 200) ≤ _; omega, z_one hg hcode rfl, List.mem_singleton.mpr rfl, hts _ hcode, hts _ hini, ⟨hd.1, hd.2.1⟩, hlen, hts _ hlk⟩, hts _ hinst, hts _ hsel⟩ ⟨hpre.1, hrecv, hpre.2⟩ rfl hn hml rfl (by show 2 * 0 + _ ≤ 8; omega) hdg ⟨hR.2.2.1, hR.2.2.2⟩
end ZR5
theorem CtX.of {l : Launch} {D : va_G} {aC : Nat → ClassId} {b0 : Nat} {y : MethodName} {cc : ByteArray} {maxL : Nat} {ret : Option FieldType} {n mc ms : Nat} {av : List Value} {M : ZM} {sz : Nat} {P : Option Value → ZM → Nat → Prop} {PX : String → ZM → Prop} (hy : plainName y.cls = true) (hlen : (lg_sl av).length ≤ maxL)
    (body : ∀ (p : Program) (e : Env) (s : State) (m : MethodId) (below : List Frame) (meth : Method) (c : Code) (ls : Array Slot), zC p l s m c D aC b0 y.cls cc maxL → meth.sig.returnType = ret → meth.locks = false → (∀ x ∈ c.exceptionTable.toList, False) → lv_has ls maxL (lv_args 0 av) →
      Z p l e (rz n mc ms) s m av.toArray below meth c D b0 M sz 0 0 (vx_MQ below (zQc D b0 P) (zXc D b0 PX) av.toArray s mc ms (zA b0)) (F0 m 0 ls [])) : CtX l D aC b0 y cc maxL ret n mc ms av M sz P PX := by
  refine vx_ofW (cc := cc) (maxL := maxL) (ret := ret) hy rfl ?_
  intro p e s m args below meth c s₁ B hml hnt hv
  obtain ⟨rfl, hG, hM, hz⟩ := hv
  have hl := lv_entry av (n := maxL) hlen
  rw [lg_entry_eq]
  generalize (lg_sl av ++ List.replicate (maxL - (lg_sl av).length) Slot.unset).toArray = ls at hl ⊢
  exact body p e s m below meth c ls ⟨B.exec, B.bytes, hml, findClass_of_methodNamed B.named, hG⟩ B.returns B.notSynchronized hnt hl s.heap [] hM hz va_S.rf
end

section
section
-- ===== PART A: goes FIRST, ahead of the names: the tables' words, and 'selects' of the private methods out of them =====
/-- a private method of a class that the tables say can be made, by its rows of tables_1 -/
def lw_okq (q : MethodName × Nat) : Prop := (q.1.cls ≠ "java/lang/invoke/MethodHandle" ∧ q.1.cls ≠ "java/lang/invoke/VarHandle") ∧ Cond.instantiable q.1.cls q.2 ∈ tables_1 ∧ Cond.privateMethod q.1 ∈ tables_1 ∧ Cond.instanceMethod q.1 ∈ tables_1
theorem lw_p0 : lw_okq (⟨"UpdateSteps$Worker", "takeAllFacts", "(LUpdateSteps$Step;)I"⟩, 5) := ⟨⟨by decide +kernel, by decide +kernel⟩, List.mem_of_getElem? (i := 30) (by decide +kernel), List.mem_of_getElem? (i := 276) (by decide +kernel), List.mem_of_getElem? (i := 277) (by decide +kernel)⟩
theorem lw_p1 : lw_okq (⟨"UpdateSteps$Worker", "makeGraph", "(LUpdateSteps$Step;)I"⟩, 5) := ⟨⟨by decide +kernel, by decide +kernel⟩, List.mem_of_getElem? (i := 30) (by decide +kernel), List.mem_of_getElem? (i := 287) (by decide +kernel), List.mem_of_getElem? (i := 288) (by decide +kernel)⟩
theorem lw_p2 : lw_okq (⟨"UpdateSteps$Worker", "bringGraph", "(LUpdateSteps$Step;)I"⟩, 5) := ⟨⟨by decide +kernel, by decide +kernel⟩, List.mem_of_getElem? (i := 30) (by decide +kernel), List.mem_of_getElem? (i := 291) (by decide +kernel), List.mem_of_getElem? (i := 292) (by decide +kernel)⟩
theorem lw_p3 : lw_okq (⟨"UpdateSteps$Worker", "addGraph", "(LUpdateSteps$Graph;LUpdateSteps$Graph;)I"⟩, 5) := ⟨⟨by decide +kernel, by decide +kernel⟩, List.mem_of_getElem? (i := 30) (by decide +kernel), List.mem_of_getElem? (i := 295) (by decide +kernel), List.mem_of_getElem? (i := 296) (by decide +kernel)⟩
theorem lw_p4 : lw_okq (⟨"UpdateSteps$Worker", "readFile", "(LUpdateSteps$Step;)I"⟩, 5) := ⟨⟨by decide +kernel, by decide +kernel⟩, List.mem_of_getElem? (i := 30) (by decide +kernel), List.mem_of_getElem? (i := 321) (by decide +kernel), List.mem_of_getElem? (i := 322) (by decide +kernel)⟩
theorem lw_p5 : lw_okq (⟨"UpdateSteps$Worker", "rewrite", "(LUpdateSteps$Step;)I"⟩, 5) := ⟨⟨by decide +kernel, by decide +kernel⟩, List.mem_of_getElem? (i := 30) (by decide +kernel), List.mem_of_getElem? (i := 340) (by decide +kernel), List.mem_of_getElem? (i := 341) (by decide +kernel)⟩
theorem lw_p6 : lw_okq (⟨"UpdateSteps$Search", "goOn", "(LUpdateSteps$Rows;LUpdateSteps$Graph;I)Z"⟩, 4) := ⟨⟨by decide +kernel, by decide +kernel⟩, List.mem_of_getElem? (i := 85) (by decide +kernel), List.mem_of_getElem? (i := 351) (by decide +kernel), List.mem_of_getElem? (i := 352) (by decide +kernel)⟩
theorem lw_p7 : lw_okq (⟨"UpdateSteps$Search", "keep", "([I)Z"⟩, 4) := ⟨⟨by decide +kernel, by decide +kernel⟩, List.mem_of_getElem? (i := 85) (by decide +kernel), List.mem_of_getElem? (i := 355) (by decide +kernel), List.mem_of_getElem? (i := 356) (by decide +kernel)⟩
theorem lw_p8 : lw_okq (⟨"UpdateSteps$Search", "holdAgainst", "(LUpdateSteps$Rows;LUpdateSteps$Graph;II)Z"⟩, 4) := ⟨⟨by decide +kernel, by decide +kernel⟩, List.mem_of_getElem? (i := 85) (by decide +kernel), List.mem_of_getElem? (i := 360) (by decide +kernel), List.mem_of_getElem? (i := 361) (by decide +kernel)⟩
theorem lw_p9 : lw_okq (⟨"UpdateSteps$Search", "fits", "(LUpdateSteps$Rows;II)Z"⟩, 4) := ⟨⟨by decide +kernel, by decide +kernel⟩, List.mem_of_getElem? (i := 85) (by decide +kernel), List.mem_of_getElem? (i := 364) (by decide +kernel), List.mem_of_getElem? (i := 365) (by decide +kernel)⟩
theorem lw_p10 : lw_okq (⟨"UpdateSteps$Worker", "takeAwayFor", "(LUpdateSteps$Step;I)V"⟩, 5) := ⟨⟨by decide +kernel, by decide +kernel⟩, List.mem_of_getElem? (i := 30) (by decide +kernel), List.mem_of_getElem? (i := 377) (by decide +kernel), List.mem_of_getElem? (i := 378) (by decide +kernel)⟩
theorem lw_p11 : lw_okq (⟨"UpdateSteps$Worker", "applyRow", "(LUpdateSteps$Step;II)Z"⟩, 5) := ⟨⟨by decide +kernel, by decide +kernel⟩, List.mem_of_getElem? (i := 30) (by decide +kernel), List.mem_of_getElem? (i := 381) (by decide +kernel), List.mem_of_getElem? (i := 382) (by decide +kernel)⟩
theorem lw_p12 : lw_okq (⟨"UpdateSteps$Worker", "valueOf", "(II)I"⟩, 5) := ⟨⟨by decide +kernel, by decide +kernel⟩, List.mem_of_getElem? (i := 30) (by decide +kernel), List.mem_of_getElem? (i := 385) (by decide +kernel), List.mem_of_getElem? (i := 386) (by decide +kernel)⟩
theorem lw_p13 : lw_okq (⟨"UpdateSteps$Worker", "withBlank", "(I)I"⟩, 5) := ⟨⟨by decide +kernel, by decide +kernel⟩, List.mem_of_getElem? (i := 30) (by decide +kernel), List.mem_of_getElem? (i := 403) (by decide +kernel), List.mem_of_getElem? (i := 404) (by decide +kernel)⟩
theorem lw_p14 : lw_okq (⟨"UpdateSteps$Worker", "addFor", "(LUpdateSteps$Step;I)Z"⟩, 5) := ⟨⟨by decide +kernel, by decide +kernel⟩, List.mem_of_getElem? (i := 30) (by decide +kernel), List.mem_of_getElem? (i := 414) (by decide +kernel), List.mem_of_getElem? (i := 415) (by decide +kernel)⟩
theorem lw_p15 : lw_okq (⟨"UpdateSteps$Changes", "compareGraphs", "(ILUpdateSteps$Graph;LUpdateSteps$Graph;)V"⟩, 4) := ⟨⟨by decide +kernel, by decide +kernel⟩, List.mem_of_getElem? (i := 164) (by decide +kernel), List.mem_of_getElem? (i := 426) (by decide +kernel), List.mem_of_getElem? (i := 427) (by decide +kernel)⟩
def lw_privs_1 : List (MethodName × Nat) := [(⟨"UpdateSteps$Worker", "takeAllFacts", "(LUpdateSteps$Step;)I"⟩, 5), (⟨"UpdateSteps$Worker", "makeGraph", "(LUpdateSteps$Step;)I"⟩, 5), (⟨"UpdateSteps$Worker", "bringGraph", "(LUpdateSteps$Step;)I"⟩, 5), (⟨"UpdateSteps$Worker", "addGraph", "(LUpdateSteps$Graph;LUpdateSteps$Graph;)I"⟩, 5), (⟨"UpdateSteps$Worker", "readFile", "(LUpdateSteps$Step;)I"⟩, 5), (⟨"UpdateSteps$Worker", "rewrite", "(LUpdateSteps$Step;)I"⟩, 5), (⟨"UpdateSteps$Search", "goOn", "(LUpdateSteps$Rows;LUpdateSteps$Graph;I)Z"⟩, 4), (⟨"UpdateSteps$Search", "keep", "([I)Z"⟩, 4), (⟨"UpdateSteps$Search", "holdAgainst", "(LUpdateSteps$Rows;LUpdateSteps$Graph;II)Z"⟩, 4), (⟨"UpdateSteps$Search", "fits", "(LUpdateSteps$Rows;II)Z"⟩, 4), (⟨"UpdateSteps$Worker", "takeAwayFor", "(LUpdateSteps$Step;I)V"⟩, 5), (⟨"UpdateSteps$Worker", "applyRow", "(LUpdateSteps$Step;II)Z"⟩, 5), (⟨"UpdateSteps$Worker", "valueOf", "(II)I"⟩, 5), (⟨"UpdateSteps$Worker", "withBlank", "(I)I"⟩, 5), (⟨"UpdateSteps$Worker", "addFor", "(LUpdateSteps$Step;I)Z"⟩, 5), (⟨"UpdateSteps$Changes", "compareGraphs", "(ILUpdateSteps$Graph;LUpdateSteps$Graph;)V"⟩, 4)]
theorem lw_r1 : ∀ q ∈ lw_privs_1, lw_okq q := List.forall_mem_cons.mpr ⟨lw_p0, List.forall_mem_cons.mpr ⟨lw_p1, List.forall_mem_cons.mpr ⟨lw_p2, List.forall_mem_cons.mpr ⟨lw_p3, List.forall_mem_cons.mpr ⟨lw_p4, List.forall_mem_cons.mpr ⟨lw_p5, List.forall_mem_cons.mpr ⟨lw_p6, List.forall_mem_cons.mpr ⟨lw_p7, List.forall_mem_cons.mpr ⟨lw_p8, List.forall_mem_cons.mpr ⟨lw_p9, List.forall_mem_cons.mpr ⟨lw_p10, List.forall_mem_cons.mpr ⟨lw_p11, List.forall_mem_cons.mpr ⟨lw_p12, List.forall_mem_cons.mpr ⟨lw_p13, List.forall_mem_cons.mpr ⟨lw_p14, List.forall_mem_cons.mpr ⟨lw_p15, fun _ h => absurd h List.not_mem_nil⟩⟩⟩⟩⟩⟩⟩⟩⟩⟩⟩⟩⟩⟩⟩⟩
theorem lw_p16 : lw_okq (⟨"UpdateSteps$Changes", "note", "(III)V"⟩, 4) := ⟨⟨by decide +kernel, by decide +kernel⟩, List.mem_of_getElem? (i := 164) (by decide +kernel), List.mem_of_getElem? (i := 430) (by decide +kernel), List.mem_of_getElem? (i := 431) (by decide +kernel)⟩
theorem lw_p17 : lw_okq (⟨"java/lang/Throwable", "fillInStackTrace", "(I)Ljava/lang/Throwable;"⟩, 6) := ⟨⟨by decide +kernel, by decide +kernel⟩, List.mem_of_getElem? (i := 499) (by decide +kernel), List.mem_of_getElem? (i := 497) (by decide +kernel), List.mem_of_getElem? (i := 498) (by decide +kernel)⟩
theorem lw_p18 : lw_okq (⟨"UpdateSteps", "stepNumbered", "(I)LUpdateSteps$Step;"⟩, 8) := ⟨⟨by decide +kernel, by decide +kernel⟩, List.mem_of_getElem? (i := 20) (by decide +kernel), List.mem_of_getElem? (i := 557) (by decide +kernel), List.mem_of_getElem? (i := 558) (by decide +kernel)⟩
theorem lw_p19 : lw_okq (⟨"UpdateSteps", "fileNumbered", "(I)LUpdateSteps$FileRows;"⟩, 8) := ⟨⟨by decide +kernel, by decide +kernel⟩, List.mem_of_getElem? (i := 20) (by decide +kernel), List.mem_of_getElem? (i := 629) (by decide +kernel), List.mem_of_getElem? (i := 630) (by decide +kernel)⟩
theorem lw_p20 : lw_okq (⟨"UpdateSteps", "graphNumbered", "(I)LUpdateSteps$Graph;"⟩, 8) := ⟨⟨by decide +kernel, by decide +kernel⟩, List.mem_of_getElem? (i := 20) (by decide +kernel), List.mem_of_getElem? (i := 650) (by decide +kernel), List.mem_of_getElem? (i := 651) (by decide +kernel)⟩
theorem lw_p21 : lw_okq (⟨"UpdateStepsModel", "isStep", "(I)Z"⟩, 50) := ⟨⟨by decide +kernel, by decide +kernel⟩, List.mem_of_getElem? (i := 702) (by decide +kernel), List.mem_of_getElem? (i := 877) (by decide +kernel), List.mem_of_getElem? (i := 878) (by decide +kernel)⟩
theorem lw_p22 : lw_okq (⟨"UpdateStepsModel", "keep", "()V"⟩, 50) := ⟨⟨by decide +kernel, by decide +kernel⟩, List.mem_of_getElem? (i := 702) (by decide +kernel), List.mem_of_getElem? (i := 913) (by decide +kernel), List.mem_of_getElem? (i := 914) (by decide +kernel)⟩
theorem lw_p23 : lw_okq (⟨"UpdateStepsModel", "act", "(I)I"⟩, 50) := ⟨⟨by decide +kernel, by decide +kernel⟩, List.mem_of_getElem? (i := 702) (by decide +kernel), List.mem_of_getElem? (i := 917) (by decide +kernel), List.mem_of_getElem? (i := 918) (by decide +kernel)⟩
theorem lw_p24 : lw_okq (⟨"UpdateStepsModel", "add", "(II)Z"⟩, 50) := ⟨⟨by decide +kernel, by decide +kernel⟩, List.mem_of_getElem? (i := 702) (by decide +kernel), List.mem_of_getElem? (i := 921) (by decide +kernel), List.mem_of_getElem? (i := 922) (by decide +kernel)⟩
theorem lw_p25 : lw_okq (⟨"UpdateStepsModel", "isLeftOut", "(II)Z"⟩, 50) := ⟨⟨by decide +kernel, by decide +kernel⟩, List.mem_of_getElem? (i := 702) (by decide +kernel), List.mem_of_getElem? (i := 925) (by decide +kernel), List.mem_of_getElem? (i := 926) (by decide +kernel)⟩
theorem lw_p26 : lw_okq (⟨"UpdateStepsModel", "valueIn", "([III)I"⟩, 50) := ⟨⟨by decide +kernel, by decide +kernel⟩, List.mem_of_getElem? (i := 702) (by decide +kernel), List.mem_of_getElem? (i := 929) (by decide +kernel), List.mem_of_getElem? (i := 930) (by decide +kernel)⟩
theorem lw_p27 : lw_okq (⟨"UpdateStepsModel", "comes", "(II)I"⟩, 50) := ⟨⟨by decide +kernel, by decide +kernel⟩, List.mem_of_getElem? (i := 702) (by decide +kernel), List.mem_of_getElem? (i := 933) (by decide +kernel), List.mem_of_getElem? (i := 934) (by decide +kernel)⟩
theorem lw_p28 : lw_okq (⟨"UpdateStepsModel", "come", "(IIII)Z"⟩, 50) := ⟨⟨by decide +kernel, by decide +kernel⟩, List.mem_of_getElem? (i := 702) (by decide +kernel), List.mem_of_getElem? (i := 937) (by decide +kernel), List.mem_of_getElem? (i := 938) (by decide +kernel)⟩
theorem lw_p29 : lw_okq (⟨"UpdateStepsModel", "find", "(IIII)I"⟩, 50) := ⟨⟨by decide +kernel, by decide +kernel⟩, List.mem_of_getElem? (i := 702) (by decide +kernel), List.mem_of_getElem? (i := 941) (by decide +kernel), List.mem_of_getElem? (i := 942) (by decide +kernel)⟩
theorem lw_p30 : lw_okq (⟨"UpdateStepsModel", "takeAway", "(II)V"⟩, 50) := ⟨⟨by decide +kernel, by decide +kernel⟩, List.mem_of_getElem? (i := 702) (by decide +kernel), List.mem_of_getElem? (i := 945) (by decide +kernel), List.mem_of_getElem? (i := 946) (by decide +kernel)⟩
theorem lw_p31 : lw_okq (⟨"UpdateStepsModel", "take", "(IIII)V"⟩, 50) := ⟨⟨by decide +kernel, by decide +kernel⟩, List.mem_of_getElem? (i := 702) (by decide +kernel), List.mem_of_getElem? (i := 949) (by decide +kernel), List.mem_of_getElem? (i := 950) (by decide +kernel)⟩
def lw_privs_2 : List (MethodName × Nat) := [(⟨"UpdateSteps$Changes", "note", "(III)V"⟩, 4), (⟨"java/lang/Throwable", "fillInStackTrace", "(I)Ljava/lang/Throwable;"⟩, 6), (⟨"UpdateSteps", "stepNumbered", "(I)LUpdateSteps$Step;"⟩, 8), (⟨"UpdateSteps", "fileNumbered", "(I)LUpdateSteps$FileRows;"⟩, 8), (⟨"UpdateSteps", "graphNumbered", "(I)LUpdateSteps$Graph;"⟩, 8), (⟨"UpdateStepsModel", "isStep", "(I)Z"⟩, 50), (⟨"UpdateStepsModel", "keep", "()V"⟩, 50), (⟨"UpdateStepsModel", "act", "(I)I"⟩, 50), (⟨"UpdateStepsModel", "add", "(II)Z"⟩, 50), (⟨"UpdateStepsModel", "isLeftOut", "(II)Z"⟩, 50), (⟨"UpdateStepsModel", "valueIn", "([III)I"⟩, 50), (⟨"UpdateStepsModel", "comes", "(II)I"⟩, 50), (⟨"UpdateStepsModel", "come", "(IIII)Z"⟩, 50), (⟨"UpdateStepsModel", "find", "(IIII)I"⟩, 50), (⟨"UpdateStepsModel", "takeAway", "(II)V"⟩, 50), (⟨"UpdateStepsModel", "take", "(IIII)V"⟩, 50)]
theorem lw_r2 : ∀ q ∈ lw_privs_2, lw_okq q := List.forall_mem_cons.mpr ⟨lw_p16, List.forall_mem_cons.mpr ⟨lw_p17, List.forall_mem_cons.mpr ⟨lw_p18, List.forall_mem_cons.mpr ⟨lw_p19, List.forall_mem_cons.mpr ⟨lw_p20, List.forall_mem_cons.mpr ⟨lw_p21, List.forall_mem_cons.mpr ⟨lw_p22, List.forall_mem_cons.mpr ⟨lw_p23, List.forall_mem_cons.mpr ⟨lw_p24, List.forall_mem_cons.mpr ⟨lw_p25, List.forall_mem_cons.mpr ⟨lw_p26, List.forall_mem_cons.mpr ⟨lw_p27, List.forall_mem_cons.mpr ⟨lw_p28, List.forall_mem_cons.mpr ⟨lw_p29, List.forall_mem_cons.mpr ⟨lw_p30, List.forall_mem_cons.mpr ⟨lw_p31, fun _ h => absurd h List.not_mem_nil⟩⟩⟩⟩⟩⟩⟩⟩⟩⟩⟩⟩⟩⟩⟩⟩
theorem lw_p32 : lw_okq (⟨"UpdateStepsModel", "leave", "(I)V"⟩, 50) := ⟨⟨by decide +kernel, by decide +kernel⟩, List.mem_of_getElem? (i := 702) (by decide +kernel), List.mem_of_getElem? (i := 953) (by decide +kernel), List.mem_of_getElem? (i := 954) (by decide +kernel)⟩
theorem lw_p33 : lw_okq (⟨"UpdateStepsModel", "change", "(I)I"⟩, 50) := ⟨⟨by decide +kernel, by decide +kernel⟩, List.mem_of_getElem? (i := 702) (by decide +kernel), List.mem_of_getElem? (i := 957) (by decide +kernel), List.mem_of_getElem? (i := 958) (by decide +kernel)⟩
theorem lw_p34 : lw_okq (⟨"UpdateStepsModel", "solve", "(I)I"⟩, 50) := ⟨⟨by decide +kernel, by decide +kernel⟩, List.mem_of_getElem? (i := 702) (by decide +kernel), List.mem_of_getElem? (i := 961) (by decide +kernel), List.mem_of_getElem? (i := 962) (by decide +kernel)⟩
theorem lw_p35 : lw_okq (⟨"UpdateStepsModel", "lineUp", "(I)V"⟩, 50) := ⟨⟨by decide +kernel, by decide +kernel⟩, List.mem_of_getElem? (i := 702) (by decide +kernel), List.mem_of_getElem? (i := 965) (by decide +kernel), List.mem_of_getElem? (i := 966) (by decide +kernel)⟩
theorem lw_p36 : lw_okq (⟨"UpdateStepsModel", "isBefore", "(II)Z"⟩, 50) := ⟨⟨by decide +kernel, by decide +kernel⟩, List.mem_of_getElem? (i := 702) (by decide +kernel), List.mem_of_getElem? (i := 969) (by decide +kernel), List.mem_of_getElem? (i := 970) (by decide +kernel)⟩
theorem lw_p37 : lw_okq (⟨"UpdateStepsModel", "fits", "(II)Z"⟩, 50) := ⟨⟨by decide +kernel, by decide +kernel⟩, List.mem_of_getElem? (i := 702) (by decide +kernel), List.mem_of_getElem? (i := 973) (by decide +kernel), List.mem_of_getElem? (i := 974) (by decide +kernel)⟩
theorem lw_p38 : lw_okq (⟨"UpdateStepsModel", "wipe", "(IZ)I"⟩, 50) := ⟨⟨by decide +kernel, by decide +kernel⟩, List.mem_of_getElem? (i := 702) (by decide +kernel), List.mem_of_getElem? (i := 977) (by decide +kernel), List.mem_of_getElem? (i := 978) (by decide +kernel)⟩
theorem lw_p39 : lw_okq (⟨"UpdateStepsModel", "empty", "(I)V"⟩, 50) := ⟨⟨by decide +kernel, by decide +kernel⟩, List.mem_of_getElem? (i := 702) (by decide +kernel), List.mem_of_getElem? (i := 981) (by decide +kernel), List.mem_of_getElem? (i := 982) (by decide +kernel)⟩
theorem lw_p40 : lw_okq (⟨"UpdateStepsModel", "readFile", "(I)I"⟩, 50) := ⟨⟨by decide +kernel, by decide +kernel⟩, List.mem_of_getElem? (i := 702) (by decide +kernel), List.mem_of_getElem? (i := 985) (by decide +kernel), List.mem_of_getElem? (i := 986) (by decide +kernel)⟩
theorem lw_p41 : lw_okq (⟨"UpdateStepsModel", "copy", "(I)I"⟩, 50) := ⟨⟨by decide +kernel, by decide +kernel⟩, List.mem_of_getElem? (i := 702) (by decide +kernel), List.mem_of_getElem? (i := 989) (by decide +kernel), List.mem_of_getElem? (i := 990) (by decide +kernel)⟩
theorem lw_p42 : lw_okq (⟨"UpdateStepsModel", "dropOne", "(I)V"⟩, 50) := ⟨⟨by decide +kernel, by decide +kernel⟩, List.mem_of_getElem? (i := 702) (by decide +kernel), List.mem_of_getElem? (i := 993) (by decide +kernel), List.mem_of_getElem? (i := 994) (by decide +kernel)⟩
theorem lw_p43 : lw_okq (⟨"UpdateStepsModel", "goBack", "()V"⟩, 50) := ⟨⟨by decide +kernel, by decide +kernel⟩, List.mem_of_getElem? (i := 702) (by decide +kernel), List.mem_of_getElem? (i := 997) (by decide +kernel), List.mem_of_getElem? (i := 998) (by decide +kernel)⟩
theorem lw_p44 : lw_okq (⟨"UpdateStepsModel", "noteAll", "()V"⟩, 50) := ⟨⟨by decide +kernel, by decide +kernel⟩, List.mem_of_getElem? (i := 702) (by decide +kernel), List.mem_of_getElem? (i := 1001) (by decide +kernel), List.mem_of_getElem? (i := 1002) (by decide +kernel)⟩
theorem lw_p45 : lw_okq (⟨"UpdateStepsModel", "wasIn", "(IIII)Z"⟩, 50) := ⟨⟨by decide +kernel, by decide +kernel⟩, List.mem_of_getElem? (i := 702) (by decide +kernel), List.mem_of_getElem? (i := 1005) (by decide +kernel), List.mem_of_getElem? (i := 1006) (by decide +kernel)⟩
theorem lw_p46 : lw_okq (⟨"UpdateStepsModel", "note", "(IIIIZ)V"⟩, 50) := ⟨⟨by decide +kernel, by decide +kernel⟩, List.mem_of_getElem? (i := 702) (by decide +kernel), List.mem_of_getElem? (i := 1009) (by decide +kernel), List.mem_of_getElem? (i := 1010) (by decide +kernel)⟩
theorem lw_p47 : lw_okq (⟨"UpdateStepsModel", "isAfter", "(IIIII)Z"⟩, 50) := ⟨⟨by decide +kernel, by decide +kernel⟩, List.mem_of_getElem? (i := 702) (by decide +kernel), List.mem_of_getElem? (i := 1013) (by decide +kernel), List.mem_of_getElem? (i := 1014) (by decide +kernel)⟩
def lw_privs_3 : List (MethodName × Nat) := [(⟨"UpdateStepsModel", "leave", "(I)V"⟩, 50), (⟨"UpdateStepsModel", "change", "(I)I"⟩, 50), (⟨"UpdateStepsModel", "solve", "(I)I"⟩, 50), (⟨"UpdateStepsModel", "lineUp", "(I)V"⟩, 50), (⟨"UpdateStepsModel", "isBefore", "(II)Z"⟩, 50), (⟨"UpdateStepsModel", "fits", "(II)Z"⟩, 50), (⟨"UpdateStepsModel", "wipe", "(IZ)I"⟩, 50), (⟨"UpdateStepsModel", "empty", "(I)V"⟩, 50), (⟨"UpdateStepsModel", "readFile", "(I)I"⟩, 50), (⟨"UpdateStepsModel", "copy", "(I)I"⟩, 50), (⟨"UpdateStepsModel", "dropOne", "(I)V"⟩, 50), (⟨"UpdateStepsModel", "goBack", "()V"⟩, 50), (⟨"UpdateStepsModel", "noteAll", "()V"⟩, 50), (⟨"UpdateStepsModel", "wasIn", "(IIII)Z"⟩, 50), (⟨"UpdateStepsModel", "note", "(IIIIZ)V"⟩, 50), (⟨"UpdateStepsModel", "isAfter", "(IIIII)Z"⟩, 50)]
theorem lw_r3 : ∀ q ∈ lw_privs_3, lw_okq q := List.forall_mem_cons.mpr ⟨lw_p32, List.forall_mem_cons.mpr ⟨lw_p33, List.forall_mem_cons.mpr ⟨lw_p34, List.forall_mem_cons.mpr ⟨lw_p35, List.forall_mem_cons.mpr ⟨lw_p36, List.forall_mem_cons.mpr ⟨lw_p37, List.forall_mem_cons.mpr ⟨lw_p38, List.forall_mem_cons.mpr ⟨lw_p39, List.forall_mem_cons.mpr ⟨lw_p40, List.forall_mem_cons.mpr ⟨lw_p41, List.forall_mem_cons.mpr ⟨lw_p42, List.forall_mem_cons.mpr ⟨lw_p43, List.forall_mem_cons.mpr ⟨lw_p44, List.forall_mem_cons.mpr ⟨lw_p45, List.forall_mem_cons.mpr ⟨lw_p46, List.forall_mem_cons.mpr ⟨lw_p47, fun _ h => absurd h List.not_mem_nil⟩⟩⟩⟩⟩⟩⟩⟩⟩⟩⟩⟩⟩⟩⟩⟩
def lw_privs : List (MethodName × Nat) := lw_privs_1 ++ (lw_privs_2 ++ (lw_privs_3))
def lw_tbl : List Cond := k2_sels lw_privs ++ tables_1
theorem lw_privs_ok : ∀ q ∈ lw_privs, lw_okq q := by
  show ∀ q ∈ lw_privs_1 ++ (lw_privs_2 ++ (lw_privs_3)), lw_okq q
  exact List.forall_mem_append.mpr ⟨lw_r1, List.forall_mem_append.mpr ⟨lw_r2, lw_r3⟩⟩
end
section
/-! ===== BEGIN words of one list among another's, by their places ===== -/
/-! ===== END ===== -/
/-! ===== END ===== -/
/-! ===== BEGIN exceptions that leave a method, and their catching by the caller (launches without stack traces) ===== -/
section VXA
/-! The laws vx_back, vx_callV, vx_callS, vx_callSW, vx_throw0, vx_throwS follow proofs of the library, with one case more: JvmDerived/Free/Laws.lean (Back.of_free), Shelf42/LK1.lean (callV, callS), Shelf/KitTraced.lean (throwNew0V, throwNewS). -/
/-- where a method has thrown q: the class by its name, the cell, what was written, the world -/
def vx_T (XC : String → State → State → Prop) (st : State) (q : Addr) (t : State) (mc ms : Nat) (free : Addr → Prop) : Prop :=
  ∃ (E : String) (ce : Cell) (L : List Loc), XC E st t ∧ t.heap[q]? = some ce ∧ ce.vm = .none ∧ st.vm.findClass E = some ce.cls ∧ st.WarmedH t.vm ∧ st.sameButNew ({ t with vm := st.vm } : State) L mc ms ∧ ∀ z ∈ L, free z.base
def vx_Q (Qc : Array Value → State → Outcome → State → Prop) (XC : String → State → State → Prop) (mc ms : Nat) (free : Addr → Prop) : Array Value → State → Outcome → State → Prop := fun a st o t =>
  (Qc a st o t ∧ ∃ L, FrameEnd st o t L mc ms ∧ ∀ q ∈ L, free q.base) ∨ ∃ q, o = .threw q ∧ vx_T XC st q t mc ms free
/-- a callee that returns or throws -/
def vx_Met (l : Launch) (y : MethodName) (ws : List Cond) (rm : Room) (Pc : Array Value → State → Prop) (Qc : Array Value → State → Outcome → State → Prop) (XC : String → State → State → Prop) (mc ms : Nat) (free : Addr → Prop) : Prop :=
  MetFree l y (headSpec ws rm) Pc (fun _ _ _ _ _ => True) (vx_Q Qc XC mc ms free)
def vx_Post (XC : String → State → State → Prop) (mc ms : Nat) (free : Addr → Prop) : Pt → Array Value → Addr → Pt → Prop := fun A a q B =>
  ∃ (g : JFrame) (mk : MethodId) (t : State) (L : List Loc) (E : String) (ce : Cell), B.U.heap = t.heap ∧ B.U.vm = t.vm ∧ XC E (A.U.calling g mk a) t ∧ t.heap[q]? = some ce ∧ ce.vm = .none ∧ A.U.vm.findClass E = some ce.cls ∧ B.locs = A.locs ++ L ∧ (∀ z ∈ L, free z.base) ∧ B.cells = A.cells + mc ∧ B.slots = A.slots + ms
def vx_Back (l : Launch) (R : Room) (p : Program) (e : Env) (below : List Frame) (s : State) (sargs : Array Value) (y : MethodName) (len W9 : Nat)
    (Pre : Pt → Array Value → Prop) (Post : Pt → Array Value → Option Value → Pt → Prop) (PostX : Pt → Array Value → Addr → Pt → Prop) : Prop :=
  ∀ (m : MethodId) (meth : Method) (c : Code) (A : Pt) (g : JFrame) (ig : Instr) (mk : MethodId) (a : Array Value),
    Stand p l e R s m sargs below meth c A.U A.locs A.cells A.slots → g.method = m → g.locals.size = c.maxLocals → decode c.code g.pc = .ok (ig, len) →
    2 * g.monitorRoom + (g.stack.map fun v => v.category).sum ≤ W9 → A.U.methodNamed? y = some mk → Pre A a →
    (∃ (v : Option Value) (B : Pt), Stand p l e R s m sargs below meth c B.U B.locs B.cells B.slots ∧ Post A a v B ∧
      Steps p.tables e below (doInvoke e (A.U.setTop g) [] mk a).1 (B.U.setTop { g with pc := g.pc + len, stack := v.toList ++ g.stack })) ∨
    (∃ (q : Addr) (B : Pt), Stand p l e R s m sargs below meth c B.U B.locs B.cells B.slots ∧ PostX A a q B ∧
      Steps p.tables e below (doInvoke e (A.U.setTop g) [] mk a).1 ((B.U.setTop g).pushFrame (.throwing q)))
section Payer
variable {l : Launch} {R : Room} {p : Program} {e : Env} {below : List Frame} {s : State} {sargs : Array Value} {y : MethodName} {len W9 : Nat}
theorem vx_back {ws : List Cond} {rm : Room} {Pc : Array Value → State → Prop} {Qc : Array Value → State → Outcome → State → Prop} {XC : String → State → State → Prop} {mc ms : Nat} {free : Addr → Prop} {bytes : ByteArray} {maxL : Nat} {ret : Option FieldType}
    (hM : vx_Met l y ws rm Pc Qc XC mc ms free) (hblind : FrameBlind Pc) (hrc : rm.cells = mc) (hrs : rm.slots = ms)
    (hframes : rm.frames + 1 ≤ R.frames) (hlocals : W9 + (maxL + 11) + rm.locals ≤ R.locals)
    (hws : ∀ w ∈ ws, ∀ a' U, s.WarmedH U.vm → w.before a' U = true) (hcode : Cond.code y bytes maxL ret ∈ ws) (hinit : ∀ a' U, s.WarmedH U.vm → (Cond.initialized y.cls).before a' U = true) :
    vx_Back l R p e below s sargs y len W9 (PreOf R mc ms Pc) (PostOf Qc mc ms free) (vx_Post XC mc ms free) := by
  intro m meth c A g ig mk a X hg hsize hdg hW hn hp
  have h1 : (headSpec ws rm).pre.before a A.U = true := atoms_intro fun w hw => hws w hw _ _ X.warmed
  have h2 : (Cond.code y bytes maxL ret).before a A.U = true := hws _ hcode _ _ X.warmed
  have h3 : (Cond.initialized y.cls).before a A.U = true := hinit _ _ X.warmed
  have h4 : A.cells + (headSpec ws rm).room.cells ≤ R.cells := by rw [show (headSpec ws rm).room.cells = mc from hrc]; exact hp.1
  have h5 : A.slots + (headSpec ws rm).room.slots ≤ R.slots := by rw [show (headSpec ws rm).room.slots = ms from hrs]; exact hp.2.1
  have hPc : Pc a (A.U.calling g mk a) := hblind _ _ _ _ hp.2.2
  obtain ⟨U, Ls, c0, s0⟩ := A
  dsimp only [Pt.U, Pt.locs, Pt.cells, Pt.slots] at h1 h2 h3 h4 h5 X hn hPc ⊢
  obtain ⟨methY, cY, hmY, hcY, -, hlY, -, -, -, -⟩ := Cond.code_spec hn h2
  obtain ⟨kY, hkY, -⟩ := className_of_methodNamed hn
  have hinitY : kY.init = .initialized := Cond.initialized_spec (findClass_of_methodNamed hn) hkY h3
  have h : At U g.method c below := by rw [hg]; exact X.here
  have hlocals9 : W9 + (maxL + 11) + (headSpec ws rm).room.locals ≤ R.locals := hlocals
  have happ : (headSpec ws rm).appliesLoose y e.platform (U.calling g mk a) = true :=
    Spec.appliesLoose_calling (g := g) h hdg hn hkY hinitY
      (X.room_calling (g := g) (R' := (headSpec ws rm).room) hsize hmY hcY hframes (by rw [hlY]; omega) h4 h5) h1
  obtain ⟨mid, hmid⟩ := h.above
  have hfr : (U.setTop g).frames = (.java g :: mid) ++ below := by rw [State.frames_setTop' g h.top, hmid]; rfl
  obtain ⟨o, s₂, hsteps, -, hend, hq⟩ := Steps.callFree hM p X.admits X.cas X.clock (acts := []) hfr happ hPc trivial
  have hq' : vx_Q Qc XC mc ms free a (U.calling g mk a) o s₂ := hq
  rw [State.frames_setTop' g h.top] at hend
  obtain ⟨g₀, hg0⟩ := Option.isSome_iff_exists.mp h.top
  obtain ⟨r, hr⟩ := State.topJava?_eq_some.mp hg0
  have hr' : (({ U with heap := s₂.heap, slotsUsed := s₂.slotsUsed } : State).setVm s₂.vm).frames = .java g₀ :: r := hr
  rcases hq' with ⟨hqc, L, hfe, hL⟩ | ⟨q, rfl, E, ce, L, hx, hce, hcv, hcl, hW₂, hsm, hL⟩
  · obtain ⟨⟨v, rfl⟩, hW₂, e2, q2, q3, q4, q5, q6⟩ := id hfe
    have e3 : s₂ = ({ (U.calling g mk a).setFrames s₂.frames with heap := s₂.heap, slotsUsed := s₂.slotsUsed } : State).setVm s₂.vm := by
      have : s₂ = ({ s₂ with vm := (U.calling g mk a).vm } : State).setVm s₂.vm := rfl
      rw [e2] at this
      exact this
    obtain ⟨c₂, i₂, len₂, hc₂, hd₂, hf₂⟩ := hend
    have hW' : U.WarmedH s₂.vm := hW₂
    have hcc : c₂ = c := by
      have h1 : s₂.code? g.method = U.code? g.method := by
        rw [State.code?_eq, State.code?_eq, hW'.alike.method?]
      exact Option.some.inj (hc₂.symm.trans (h1.trans h.code))
    subst hcc
    have hlen : len₂ = len := by rw [hdg] at hd₂; cases hd₂; rfl
    subst hlen
    have hs₂ : s₂ = (({ U with heap := s₂.heap, slotsUsed := s₂.slotsUsed } : State).setVm s₂.vm).setTop { g with pc := g.pc + len₂, stack := v.toList ++ g.stack } := by
      refine e3.trans ?_
      rw [hf₂, State.calling_eq h.top, State.setFrames_setFrames, State.setTop_of_frames _ hr', hr]
      rfl
    have hsame : U.sameButNew ({ U with heap := s₂.heap, slotsUsed := s₂.slotsUsed } : State) L mc ms := by
      refine ⟨?_, q2, q3, q4, q5, q6⟩
      obtain ⟨t, ht, -⟩ := State.frames_cons hr
      show ({ U with heap := s₂.heap, slotsUsed := s₂.slotsUsed } : State) = { U.setFrames U.frames with heap := s₂.heap, slotsUsed := s₂.slotsUsed }
      rw [State.setFrames_self ht]
    subst hg
    refine Or.inl ⟨v, ⟨(({ U with heap := s₂.heap, slotsUsed := s₂.slotsUsed } : State).setVm s₂.vm), Ls ++ L, c0 + mc, s0 + ms⟩,
      ⟨X.admits, X.cas, X.clock, X.frames, X.room, X.hears, X.method, X.code, (X.here.setHeapUsed s₂.heap s₂.slotsUsed).setVm hW'.alike, X.tail, State.WarmedH.trans X.warmed hW', X.limits, X.bytes, X.same.trans (hsame.setVm s.vm)⟩,
      ⟨g, mk, s₂, L, rfl, rfl, hqc, rfl, hL, rfl, rfl⟩, ?_⟩
    show Steps p.tables e below _ ((({ U with heap := s₂.heap, slotsUsed := s₂.slotsUsed } : State).setVm s₂.vm).setTop { g with pc := g.pc + len₂, stack := v.toList ++ g.stack })
    rw [← hs₂]
    exact hsteps
  · obtain ⟨e2, q2, q3, q4, q5, q6⟩ := id hsm
    have e3 : s₂ = ({ (U.calling g mk a).setFrames s₂.frames with heap := s₂.heap, slotsUsed := s₂.slotsUsed } : State).setVm s₂.vm := by
      have : s₂ = ({ s₂ with vm := (U.calling g mk a).vm } : State).setVm s₂.vm := rfl
      rw [e2] at this
      exact this
    have hf₂ : s₂.frames = .throwing q :: .java g :: U.frames.tail := hend
    have hW' : U.WarmedH s₂.vm := hW₂
    have hs₂ : s₂ = ((({ U with heap := s₂.heap, slotsUsed := s₂.slotsUsed } : State).setVm s₂.vm).setTop g).pushFrame (.throwing q) := by
      refine e3.trans ?_
      rw [hf₂, State.calling_eq h.top, State.setFrames_setFrames, State.pushFrame, State.frames_setTop _ hr', State.setTop_of_frames _ hr', State.setFrames_setFrames, hr]
      rfl
    have hsame : U.sameButNew ({ U with heap := s₂.heap, slotsUsed := s₂.slotsUsed } : State) L mc ms := by
      refine ⟨?_, q2, q3, q4, q5, q6⟩
      obtain ⟨t, ht, -⟩ := State.frames_cons hr
      show ({ U with heap := s₂.heap, slotsUsed := s₂.slotsUsed } : State) = { U.setFrames U.frames with heap := s₂.heap, slotsUsed := s₂.slotsUsed }
      rw [State.setFrames_self ht]
    subst hg
    refine Or.inr ⟨q, ⟨(({ U with heap := s₂.heap, slotsUsed := s₂.slotsUsed } : State).setVm s₂.vm), Ls ++ L, c0 + mc, s0 + ms⟩,
      ⟨X.admits, X.cas, X.clock, X.frames, X.room, X.hears, X.method, X.code, (X.here.setHeapUsed s₂.heap s₂.slotsUsed).setVm hW'.alike, X.tail, State.WarmedH.trans X.warmed hW', X.limits, X.bytes, X.same.trans (hsame.setVm s.vm)⟩,
      ⟨g, mk, s₂, L, E, ce, rfl, rfl, hx, hce, hcv, hcl, rfl, hL, rfl, rfl⟩, ?_⟩
    show Steps p.tables e below _ (((({ U with heap := s₂.heap, slotsUsed := s₂.slotsUsed } : State).setVm s₂.vm).setTop g).pushFrame (.throwing q))
    rw [← hs₂]
    exact hsteps
end Payer
section Calls
variable {p : Program} {l : Launch} {e : Env} {R : Room} {s : State} {m : MethodId} {args : Array Value} {below : List Frame} {meth : Method} {c : Code} {T : State} {locs : List Loc} {cells slots : Nat}
theorem vx_callV (X : Stand p l e R s m args below meth c T locs cells slots) (hexec : p.tables.exec = Jvm.exec) {own C : String} {index : Nat} {y : MethodName} {bytes : ByteArray} {maxL : Nat} {ret : Option FieldType}
    (hown : s.vm.findClass own = some m.cls) (hlink : (Cond.methodLink own index y).before args s = true) (hinst : (Cond.instanceMethod y).before args s = true) (hsel : (Cond.selects C y y).before args s = true)
    (hcode : (Cond.code y bytes maxL ret).before args s = true) (hy : y.cls ≠ "java/lang/invoke/MethodHandle" ∧ y.cls ≠ "java/lang/invoke/VarHandle")
    {W9 : Nat} {Pre : Pt → Array Value → Prop} {Post : Pt → Array Value → Option Value → Pt → Prop} {PostX : Pt → Array Value → Addr → Pt → Prop} (hK : vx_Back l R p e below s args y 3 W9 Pre Post PostX)
    {b : Addr} {cellB : Cell} (hcell : T.heap[b]? = some cellB) (hobj : cellB.vm.isStatics = false) (hcls : s.vm.findClass C = some cellB.cls)
    {g : JFrame} (hg : g.method = m) (hsize : g.locals.size = c.maxLocals) {argsL rest : List Value} (hlen : ∀ sig, parseMethodDescriptor y.desc = some sig → argsL.length = sig.parameters.length)
    (hstack : g.stack = argsL.reverse ++ .ref b :: rest) (hW : 2 * g.monitorRoom + (rest.map fun v => v.category).sum ≤ W9) (hdg : decode c.code g.pc = .ok (.invokevirtual index, 3))
    (hpre : ∀ vm₁, s.WarmedH vm₁ → Pre ⟨T.setVm vm₁, locs, cells, slots⟩ (Value.ref b :: argsL).toArray) :
    (∃ (v : Option Value) (vm₁ : Vm) (B : Pt), s.WarmedH vm₁ ∧ Stand p l e R s m args below meth c B.U B.locs B.cells B.slots ∧ Post ⟨T.setVm vm₁, locs, cells, slots⟩ (Value.ref b :: argsL).toArray v B ∧
      ∀ target, Steps p.tables e below (B.U.setTop { g with pc := g.pc + 3, stack := v.toList ++ rest }) target → Steps p.tables e below (T.setTop g) target) ∨
    (∃ (q : Addr) (vm₁ : Vm) (B : Pt), s.WarmedH vm₁ ∧ Stand p l e R s m args below meth c B.U B.locs B.cells B.slots ∧ PostX ⟨T.setVm vm₁, locs, cells, slots⟩ (Value.ref b :: argsL).toArray q B ∧
      Steps p.tables e below (T.setTop g) ((B.U.setTop { g with stack := rest }).pushFrame (.throwing q))) := by
  obtain ⟨mk, methM, hnamed, hmethM, hstM, habM⟩ := Cond.instanceMethod_spec hinst
  obtain ⟨methM', cM, hmethM', -, -, -, -, -, -, hsigM⟩ := Cond.code_spec hnamed hcode
  cases hmethM.symm.trans hmethM'
  obtain ⟨c2, r2, m2, q1, q2, q3, q4, kP, hkP, hkPi⟩ := Cond.selects_spec hsel
  cases hcls.symm.trans q1
  cases (State.methodFound?_of_named hnamed hy).symm.trans q2
  cases hnamed.symm.trans q3
  have hselP : selectMethod e.platform s.vm cellB.cls mk = .method mk := by rw [Launch.admits_selectMethod X.admits]; exact q4
  obtain ⟨vm₁, X₁, hstep₁⟩ := X.invokevirtual hexec hown hlink hnamed hmethM hstM hkP hkPi hy (a := b) (cell := cellB) hcell
    (fun z h => by rw [h] at hobj; cases hobj) hselP hmethM habM hkP hkPi (g := g) hg (argsL := argsL) (rest := rest) (hlen _ hsigM) hstack hdg
  rcases hK m meth c ⟨T.setVm vm₁, locs, cells, slots⟩ { g with stack := rest } (.invokevirtual index) mk (Value.ref b :: argsL).toArray X₁ hg hsize hdg hW (X₁.named hnamed) (hpre vm₁ X₁.warmed) with ⟨v, B, X', hpost, hsteps⟩ | ⟨q, B, X', hpost, hsteps⟩
  · exact Or.inl ⟨v, vm₁, B, X₁.warmed, X', hpost, fun target h => hstep₁ _ fun acts => by rw [doInvoke_state]; exact hsteps.trans h⟩
  · exact Or.inr ⟨q, vm₁, B, X₁.warmed, X', hpost, hstep₁ _ fun acts => by rw [doInvoke_state]; exact hsteps⟩
end Calls
theorem vx_cls {s : State} {T : State} {vm₁ : Vm} {E : String} {k : ClassId} (hW : s.WarmedH vm₁) (h : (T.setVm vm₁).vm.findClass E = some k) : s.vm.findClass E = some k := by
  have h1 : vm₁.findClass E = some k := h
  rw [hW.alike.findClass] at h1
  exact h1
/-- the method's frame g, with q thrown over it -/
def vx_W (p : Program) (l : Launch) (e : Env) (R : Room) (s : State) (m : MethodId) (args : Array Value) (below : List Frame) (meth : Method) (c : Code) (H : Heap) (locs : List Loc) (cells slots : Nat) (Q : State → Prop) (g : JFrame) (q : Addr) : Prop :=
  ∀ T : State, T.heap = H → Stand p l e R s m args below meth c T locs cells slots → ∃ t, Steps p.tables e below ((T.setTop g).pushFrame (.throwing q)) t ∧ Q t
def vx_Run (p : Program) (l : Launch) (e : Env) (R : Room) (s : State) (m : MethodId) (args : Array Value) (below : List Frame) (meth : Method) (c : Code) (H : Heap) (locs : List Loc) (cells slots mc ms : Nat) (g : JFrame) (rest : List Value) (Qa : State → Outcome → State → Prop) (XC : String → State → State → Prop) (free : Addr → Prop) : Prop :=
  ∀ T : State, T.heap = H → Stand p l e R s m args below meth c T locs cells slots →
    (∃ (v : Option Value) (st₀ t T' : State) (L : List Loc), st₀.heap = H ∧ Stand p l e R s m args below meth c T' (locs ++ L) (cells + mc) (slots + ms) ∧ (∀ q ∈ L, free q.base) ∧ T'.heap = t.heap ∧ T'.vm = t.vm ∧ Qa st₀ (.returned v) t ∧
      Goes p e below T g T' { g with pc := g.pc + 3, stack := v.toList ++ rest }) ∨
    (∃ (q : Addr) (st₀ t T' : State) (L : List Loc) (E : String) (ce : Cell), st₀.heap = H ∧ Stand p l e R s m args below meth c T' (locs ++ L) (cells + mc) (slots + ms) ∧ (∀ z ∈ L, free z.base) ∧ T'.heap = t.heap ∧ T'.vm = t.vm ∧ XC E st₀ t ∧ t.heap[q]? = some ce ∧ ce.vm = .none ∧ s.vm.findClass E = some ce.cls ∧
      Steps p.tables e below (T.setTop g) ((T'.setTop { g with stack := rest }).pushFrame (.throwing q)))
section Runs
variable {p : Program} {l : Launch} {e : Env} {R : Room} {s : State} {m : MethodId} {args : Array Value} {below : List Frame} {meth : Method} {c : Code} {H : Heap} {locs : List Loc} {cells slots : Nat}
variable {y : MethodName} {bytes cc : ByteArray} {maxL nL mc ms n index : Nat} {ret : Option FieldType} {ws : List Cond} {rm : Room} {Pc : Array Value → State → Prop} {Qc : Array Value → State → Outcome → State → Prop} {XC : String → State → State → Prop} {free : Addr → Prop} {Ts : List Cond} {own C : String} {b : Addr} {As rest : List Value} {g : JFrame}
theorem vx_callBack (cb : CallB R s args own index y bytes maxL ret ws rm mc ms n) (hM : vx_Met l y ws rm Pc Qc XC mc ms free) (hbl : FrameBlind Pc) : vx_Back l R p e below s args y 3 8 (PreOf R mc ms Pc) (PostOf Qc mc ms free) (vx_Post XC mc ms free) := by
  obtain ⟨hrc, hrs, hfr, hlo, hws, hcw, -, hini, -⟩ := cb
  exact vx_back (bytes := bytes) (maxL := maxL) (ret := ret) hM hbl hrc hrs hfr hlo hws hcw (fun a' U hW => word_at hW (Or.inl (by first | rfl | simp [Cond.onTables, Cond.keeps, Cond.steady])) hini)
theorem vx_runV (S : CallFix p m c cc nL s args Ts own) (hM : vx_Met l y ws rm Pc Qc XC mc ms free) (cw : CallW R s args own C index y bytes maxL ret ws rm mc ms n) (hp : PreV s H C b Pc As)
    (hg : g.method = m) (hn : As.length = n) (hsize : g.locals.size = nL) (hstack : g.stack = As.reverse ++ .ref b :: rest) (hW : 2 * g.monitorRoom + (rest.map fun v => v.category).sum ≤ 8) (hdg : decode cc g.pc = .ok (.invokevirtual index, 3)) (hf : cells + mc ≤ R.cells ∧ slots + ms ≤ R.slots) :
    vx_Run p l e R s m args below meth c H locs cells slots mc ms g rest (Qc (Value.ref b :: As).toArray) XC free := by
  have hK : vx_Back l R p e below s args y 3 8 (PreOf R mc ms Pc) (PostOf Qc mc ms free) (vx_Post XC mc ms free) := vx_callBack cw.1 hM hp.1
  obtain ⟨⟨-, -, -, -, -, -, hcode, -, hy, hlen, hl⟩, hin, hse⟩ := cw
  obtain ⟨hx, hb, hml, ho, -⟩ := S
  obtain ⟨-, ⟨cellB, hcB, hoB, hclB⟩, hPc⟩ := hp
  intro T hT X
  rcases vx_callV X hx (C := C) (bytes := bytes) (maxL := maxL) (ret := ret) ho hl hin hse hcode hy hK (by rw [hT]; exact hcB) hoB hclB hg (hsize.trans hml.symm) (argsL := As) (rest := rest) (fun sig h => hn.trans (hlen sig h)) hstack hW (by rw [hb]; exact hdg)
    (fun vm₁ hW₁ => ⟨hf.1, hf.2, hPc (T.setVm vm₁) hT hW₁⟩) with ⟨v, vm₁, ⟨U', l2, c2, s2⟩, hW₁, X', ⟨g', mk, t, L, e1, e2, hq, h1, hL, h2, h3⟩, st⟩ | ⟨q, vm₁, ⟨U', l2, c2, s2⟩, hW₁, X', ⟨g', mk, t, L, E, ce, e1, e2, hq, hce, hcv, hcl, h1, hL, h2, h3⟩, st⟩
  · dsimp only [Pt.U, Pt.locs, Pt.cells, Pt.slots] at X' e1 e2 h1 h2 h3 st
    subst h1; subst h2; subst h3
    exact Or.inl ⟨v, (T.setVm vm₁).calling g' mk (Value.ref b :: As).toArray, t, U', L, hT, X', hL, e1, e2, hq, st⟩
  · dsimp only [Pt.U, Pt.locs, Pt.cells, Pt.slots] at X' e1 e2 h1 h2 h3 st hcl
    subst h1; subst h2; subst h3
    exact Or.inr ⟨q, (T.setVm vm₁).calling g' mk (Value.ref b :: As).toArray, t, U', L, E, ce, hT, X', hL, e1, e2, hq, hce, hcv, vx_cls hW₁ hcl, st⟩
end Runs
section Rows
variable {p : Program} {l : Launch} {e : Env} {R : Room} {s : State} {m : MethodId} {args : Array Value} {below : List Frame} {meth : Method} {c : Code} {H : Heap} {locs : List Loc} {cells slots : Nat} {Q : State → Prop}
variable {mc ms : Nat} {free : Addr → Prop} {A0 A1 : Nat → Prop} {H0 : Heap} {a : Array Value} {pc : Nat} {ls : Array Slot} {st0 rest : List Value}
end Rows
section Ends
variable {p : Program} {l : Launch} {e : Env} {R : Room} {s : State} {m : MethodId} {args : Array Value} {below : List Frame} {meth : Method} {c : Code} {H : Heap} {locs : List Loc} {cells slots : Nat} {Q : State → Prop}
variable {mc ms : Nat} {free : Addr → Prop} {A0 A1 : Nat → Prop} {H0 : Heap} {a : Array Value} {ls : Array Slot} {st0 rest : List Value}
variable {Qc : Array Value → State → Outcome → State → Prop} {XC : String → State → State → Prop}
/-- what a body that may throw owes at its end -/
def vx_MQ (below : List Frame) (Qc : Array Value → State → Outcome → State → Prop) (XC : String → State → State → Prop) (a : Array Value) (s : State) (mc ms : Nat) (free : Addr → Prop) : State → Prop := fun t =>
  ∃ o, t.status = .running ∧ Ended t below o ∧ vx_Q Qc XC mc ms free a s o t
theorem vx_ret {g : JFrame} {mc ms : Nat} (k : W p l e R s m args below meth c H locs cells slots (MQ below Qc args s mc ms free) g) : W p l e R s m args below meth c H locs cells slots (vx_MQ below Qc XC args s mc ms free) g := by
  intro T hT X
  obtain ⟨t, a1, o, b1, b2, b3, b4⟩ := k T hT X
  exact ⟨t, a1, o, b1, b2, Or.inl ⟨b3, b4⟩⟩
theorem vx_out {pc : Nat} {E : String} {ce : Cell} {q : Addr} {mc ms : Nat} (hout : ∀ x ∈ c.exceptionTable.toList, covers x pc = false) (hlocks : meth.locks = false) (hcell : H[q]? = some ce) (hv : ce.vm = .none) (hcl : s.vm.findClass E = some ce.cls)
    (hx : ∀ t : State, t.heap = H → s.vm.Alike t.vm → XC E s t) (hf : ∀ z ∈ locs, free z.base) (hc : cells ≤ mc) (hs : slots ≤ ms) :
    vx_W p l e R s m args below meth c H locs cells slots (vx_MQ below Qc XC args s mc ms free) (F0 m pc ls rest) q := by
  intro T hT X
  obtain ⟨st1, hrun, hend, hW, hsm⟩ := X.leaveThrown q (g := F0 m pc ls rest) rfl rfl rfl hout hlocks
  have hcell9 : (T.setFrames (.throwing q :: below)).heap[q]? = some ce := by
    show T.heap[q]? = some ce
    rw [hT]; exact hcell
  exact ⟨_, st1, .threw q, hrun, hend, Or.inr ⟨q, rfl, E, ce, locs, hx _ hT hW.alike, hcell9, hv, hcl, hW, hsm.mono hc hs, hf⟩⟩
theorem vx_frame {U : State} {k n : Nat} (h : s.sameButNew ({ U with vm := s.vm } : State) locs k n) : s.heap.size ≤ U.heap.size ∧ ∀ q : Nat, q < s.heap.size → (∀ z ∈ locs, z.base ≠ q) → U.heap[q]? = s.heap[q]? := by
  obtain ⟨-, h2, -, -, -, h6⟩ := h
  refine ⟨h2, fun q hq hz => ?_⟩
  obtain ⟨c9, e1, e2, e3, e4⟩ := h6 q _ (Array.getElem?_eq_getElem hq)
  have hs : c9.slots = (s.heap[q]).slots := Array.ext_getElem? fun i => e4 i fun hm => hz _ hm rfl
  have h9 : c9 = s.heap[q] := by
    rw [hs] at e2
    exact e2
  have e5 : U.heap[q]? = some c9 := e1
  rw [e5, h9, Array.getElem?_eq_getElem hq]
/-- the words of a throw but the four that speak of the heap -/
def vx_no (w : Cond) : Bool := decide (w ≠ .isRef (.static Bundle.tN "UNASSIGNED_STACK" Bundle.steD)) && decide (w ≠ .isRef (.static Bundle.tN "SUPPRESSED_SENTINEL" Bundle.listD)) && decide (w ≠ .laysStatic Bundle.tN "UNASSIGNED_STACK" Bundle.steD) && decide (w ≠ .laysStatic Bundle.tN "SUPPRESSED_SENTINEL" Bundle.listD)
def vx_atS (own : String) (ic : Nat) (X : String) (names : List String) : List Cond := (Bundle.ownAtoms own ic X names).filter vx_no
/-- a word that the tables alone decide, or a good one -/
def vx_ot (w : Cond) : Bool := w.onTables || goodWord w
theorem vx_ot_at {args a' : Array Value} {s U : State} {w : Cond} (hW : s.WarmedH U.vm) (hvm : s.vm = U.vm) (hg : vx_ot w = true) (h : w.before args s = true) : w.before a' U = true := by
  simp only [vx_ot, Bool.or_eq_true] at hg
  rcases hg with hg | hg
  · exact va_tabs hg hvm h
  · exact word_at hW (good_of_word hg) h
theorem vx_own {args : Array Value} {s : State} {L : List Cond} (h1 : ∀ w ∈ L.filter vx_no, w.before args s = true)
    (hU : (Cond.isRef (.static Bundle.tN "UNASSIGNED_STACK" Bundle.steD)).before args s = true) (hN : (Cond.isRef (.static Bundle.tN "SUPPRESSED_SENTINEL" Bundle.listD)).before args s = true)
    (lU : (Cond.laysStatic Bundle.tN "UNASSIGNED_STACK" Bundle.steD).before args s = true) (lN : (Cond.laysStatic Bundle.tN "SUPPRESSED_SENTINEL" Bundle.listD).before args s = true) : ∀ w ∈ L, w.before args s = true := by
  intro w hw
  by_cases e1 : w = .isRef (.static Bundle.tN "UNASSIGNED_STACK" Bundle.steD)
  · rw [e1]; exact hU
  · by_cases e2 : w = .isRef (.static Bundle.tN "SUPPRESSED_SENTINEL" Bundle.listD)
    · rw [e2]; exact hN
    · by_cases e3 : w = .laysStatic Bundle.tN "UNASSIGNED_STACK" Bundle.steD
      · rw [e3]; exact lU
      · by_cases e4 : w = .laysStatic Bundle.tN "SUPPRESSED_SENTINEL" Bundle.listD
        · rw [e4]; exact lN
        · exact h1 w (List.mem_filter.mpr ⟨hw, by unfold vx_no; rw [decide_eq_true e1, decide_eq_true e2, decide_eq_true e3, decide_eq_true e4]; rfl⟩)
/-- where a static field lies, its class's statics cell in H -/
def vx_L (C n d : String) (A : Nat → Prop) (U : State) (H : Heap) : Prop := ∃ (c : ClassId) (k : Class) (i : Nat) (f : Field) (a : Nat) (cell : Cell), U.vm.findClass C = some c ∧ U.fieldFound? C n d = some (c, k, i, f) ∧ f.isStatic = true ∧ k.statics = some a ∧ H[a]? = some cell ∧ cell.vm.isStatics = true ∧ cell.cls = c ∧ f.slot < cell.slots.size ∧ k.staticTypes[f.slot]? = some f.type ∧ ¬ A a
theorem vx_L.moved {C n d : String} {A : Nat → Prop} {u U : State} {H : Heap} (hvm : u.vm.Alike U.vm) (h : vx_L C n d A u H) : vx_L C n d A U H := by
  obtain ⟨c, k, i, f, a, cell, h1, h2, h3, h4, h5, h6, h7, h8, h9, h10⟩ := h
  obtain ⟨k', hi', he⟩ := State.fieldFound?_setVm hvm h2
  exact ⟨c, k', i, f, a, cell, by rw [hvm.findClass]; exact h1, hi', h3, by rw [he]; exact h4, h5, h6, h7, h8, by rw [he]; exact h9, h10⟩
theorem vx_L.kept {C n d : String} {A : Nat → Prop} {U : State} {H H1 : Heap} (h : vx_L C n d A U H) (hq : ∀ a : Nat, a < H.size → ¬ A a → H1[a]? = H[a]?) : vx_L C n d A U H1 := by
  obtain ⟨c, k, i, f, a, cell, h1, h2, h3, h4, h5, h6, h7, h8, h9, h10⟩ := h
  exact ⟨c, k, i, f, a, cell, h1, h2, h3, h4, by rw [hq a (Array.getElem?_eq_some_iff.mp h5).1 h10]; exact h5, h6, h7, h8, h9, h10⟩
theorem vx_L.narrow {C n d : String} {A B : Nat → Prop} {U : State} {H : Heap} (h : vx_L C n d A U H) (hAB : ∀ q, B q → A q) : vx_L C n d B U H := by
  obtain ⟨c, k, i, f, a, cell, h1, h2, h3, h4, h5, h6, h7, h8, h9, h10⟩ := h
  exact ⟨c, k, i, f, a, cell, h1, h2, h3, h4, h5, h6, h7, h8, h9, fun z => h10 (hAB _ z)⟩
theorem vx_L.word {C n d : String} {A : Nat → Prop} {s : State} {args : Array Value} (h : vx_L C n d A s s.heap) : (Cond.laysStatic C n d).before args s = true := by
  obtain ⟨c, k, i, f, a, cell, h1, h2, h3, h4, h5, h6, h7, h8, h9, -⟩ := h
  show (Cond.laysStatic C n d).holds args s none s [] = true
  exact Cond.laysStatic_of h1 h2 h3 h4 h5 h6 h7 h8 h9
/-- .. and what it holds: null or some reference -/
def vx_Zq (C n d : String) (A : Nat → Prop) (U : State) (H : Heap) : Prop := va_Zq C n d A U H ∧ vx_L C n d A U H
theorem vx_Zq.moved {C n d : String} {A : Nat → Prop} {u U : State} {H : Heap} (hvm : u.vm.Alike U.vm) (h : vx_Zq C n d A u H) : vx_Zq C n d A U H := ⟨va_Zq.moved hvm h.1, vx_L.moved hvm h.2⟩
theorem vx_Zq.kept {C n d : String} {A : Nat → Prop} {U : State} {H H1 : Heap} (h : vx_Zq C n d A U H) (hq : ∀ a : Nat, a < H.size → ¬ A a → H1[a]? = H[a]?) : vx_Zq C n d A U H1 := ⟨va_Zq.kept h.1 hq, vx_L.kept h.2 hq⟩
theorem vx_Zq.narrow {C n d : String} {A B : Nat → Prop} {U : State} {H : Heap} (h : vx_Zq C n d A U H) (hAB : ∀ q, B q → A q) : vx_Zq C n d B U H := ⟨va_Zq.narrow h.1 hAB, vx_L.narrow h.2 hAB⟩
theorem vx_Zqof {args : Array Value} {s : State} {C n d : String} {A : Nat → Prop} (hl : (Cond.laysStatic C n d).before args s = true) (hini : (Cond.initialized C).before args s = true) (h : (Cond.isRef (.static C n d)).before args s = true) (hA : ∀ a : Nat, a < s.heap.size → ¬ A a) : vx_Zq C n d A s s.heap := by
  refine ⟨va_Zqof hl hini h hA, ?_⟩
  obtain ⟨c, k, i, f, a, cell, h1, h2, h3, h4, h5, h6, h7, h8, h9⟩ := Cond.laysStatic_spec hl
  exact ⟨c, k, i, f, a, cell, h1, h2, h3, h4, h5, h6, h7, h8, h9, hA a (Array.getElem?_eq_some_iff.mp h5).1⟩
theorem vx_isRef {C n d : String} {v : Value} {A : Nat → Prop} {s : State} {args : Array Value} (h : va_Z C n d v A s s.heap) (hv : v.isRef = true) : (Cond.isRef (.static C n d)).before args s = true := by
  obtain ⟨cf, kf, fi, f, a, cell, h1, h2, h3, h4, h5, h6, h7, -⟩ := h
  have he : (Term.static C n d).eval args s none [] s = some v := by
    simp [Term.eval, State.fieldNamed?, h1, h2, h4, h5, h6, h7]
  simp only [Cond.before, Cond.holds, Cond.value, he]
  cases v <;> simp_all [Value.isRef]
theorem vx_isRefq {C n d : String} {A : Nat → Prop} {s : State} {args : Array Value} (h : va_Zq C n d A s s.heap) : (Cond.isRef (.static C n d)).before args s = true := by
  rcases h with h | ⟨t, h⟩
  · exact vx_isRef h rfl
  · exact vx_isRef h rfl
/-- the same frame, seen from here: as if the method were called anew in this heap -/
theorem vx_rebase {T : State} (X : Stand p l e R s m args below meth c T locs cells slots) {R' : Room} (hf : R'.frames ≤ R.frames) (hl : R'.locals ≤ R.locals) (hc : cells + R'.cells ≤ R.cells) (hs : slots + R'.slots ≤ R.slots) :
    Stand p l e R' ((T.setVm s.vm).setFrames (.invoking m args :: below)) m args below meth c T [] 0 0 := by
  have htop : (T.setVm s.vm).topJava?.isSome := X.here.top
  have hF : ((T.setVm s.vm).setFrames (.invoking m args :: below)).frames = .invoking m args :: below := State.frames_setFrames _ (State.cur_lt_of_top htop)
  obtain ⟨g₀, hg0⟩ := Option.isSome_iff_exists.mp htop
  obtain ⟨r, hr⟩ := State.topJava?_eq_some.mp hg0
  have hl9 : e.platform.stackLimits (T.setVm s.vm).me = e.platform.stackLimits s.me := X.limits
  have hb9 : (T.setVm s.vm).me.stackBytes = s.me.stackBytes := X.bytes
  refine ⟨X.admits, X.cas, X.clock, hF, ?_, X.hears, X.method, X.code, X.here, X.tail, X.warmed, ?_, ?_, ?_⟩
  · have h := X.room
    have hU : ((T.setVm s.vm).setFrames (.invoking m args :: below)).localsInUse = s.localsInUse := by
      rw [State.localsInUse_invoking hF (meth := meth) (c := c) X.method X.code, State.localsInUse_invoking X.frames X.method X.code]
    simp only [State.hasRoom, Bool.and_eq_true, decide_eq_true_eq] at h ⊢
    obtain ⟨⟨⟨⟨h1, h2, h3, h4, h5, h6⟩, h7⟩, h8⟩, h9⟩ := h
    rw [X.frames, List.length_cons] at h2 h3
    have q1 := X.heapSize
    have q2 := X.used
    simp only [hF, hU, List.length_cons, State.stackLimits_setFrames, State.stackBytes_setFrames, hl9, hb9]
    refine ⟨⟨⟨⟨by omega, by omega, by omega, by omega, by omega, h6⟩, ?_⟩, ?_⟩, X.book⟩
    · show T.heap.size + R'.cells ≤ e.platform.maxCells
      omega
    · show T.slotsUsed + R'.slots ≤ e.platform.maxSlots
      omega
  · rw [State.stackLimits_setFrames]; rfl
  · rw [State.stackBytes_setFrames]; rfl
  · refine ⟨?_, Nat.le_refl _, Nat.le_refl _, ?_, ?_, fun a c9 h9 => ⟨c9, h9, rfl, rfl, fun _ _ => rfl⟩⟩
    · obtain ⟨t, ht, -⟩ := State.frames_cons hr
      show T.setVm s.vm = { ((T.setVm s.vm).setFrames (.invoking m args :: below)).setFrames (T.setVm s.vm).frames with heap := T.heap, slotsUsed := T.slotsUsed }
      rw [State.setFrames_setFrames, State.setFrames_self ht]
      rfl
    · show T.slotsUsed = T.slotsUsed + ((T.heap.toList.drop T.heap.size).map (·.slots.size)).sum
      rw [List.drop_eq_nil_of_le (Nat.le_of_eq Array.length_toList)]
      rfl
    · show ((T.heap.toList.drop T.heap.size).map (·.slots.size)).sum ≤ 0
      rw [List.drop_eq_nil_of_le (Nat.le_of_eq Array.length_toList)]
      exact Nat.le_refl _
/-- 'throw new E("text")': new; dup; ldc; invokespecial; athrow -/
theorem vx_throwS {cc : ByteArray} {pc : Nat} (hexec : p.tables.exec = Jvm.exec) (hb : c.code = cc) (hl : l.stackTraces = false) {own cls text : String} {names : List String} {ik is ic mc ms sa : Nat} {A : Nat → Prop}
    (hown : s.vm.findClass own = some m.cls) (hcls : Bundle.fit cls = true) (hnames : ∀ n ∈ names, Bundle.fit n = true)
    (hk : (Cond.classLink own ik cls).before args s = true) (hini : (Cond.initialized cls).before args s = true) (hstr : vk_R own is text sa s) (hat : ∀ w ∈ vx_atS own ic cls names, w.before args s = true)
    (hgood : ∀ w ∈ Cond.classLink own ik cls :: Cond.initialized cls :: vx_atS own ic cls names, vx_ot w = true)
    (hU : vx_Zq Bundle.tN "UNASSIGNED_STACK" Bundle.steD A s s.heap) (hN : vx_Zq Bundle.tN "SUPPRESSED_SENTINEL" Bundle.listD A s s.heap) (hS : va_S A s.heap H locs) (hsize : ls.size = c.maxLocals)
    (d0 : decode cc pc = .ok (.new ik, 3)) (d3 : decode cc (pc + 3) = .ok (.dup, 1)) (d4 : decode cc (pc + 4) = .ok (.ldc is, 2)) (d6 : decode cc (pc + 6) = .ok (.invokespecial ic, 3)) (d9 : decode cc (pc + 9) = .ok (.athrow, 1))
    (hout : ∀ x ∈ c.exceptionTable.toList, covers x (pc + 9) = false)
    (hRframes : names.length + 3 < R.frames) (hRlocals : (rest.map fun v => v.category).sum + (13 * (names.length + 1) + 43) ≤ R.locals) (hRcells : cells + 1 ≤ R.cells) (hRslots : slots + 6 ≤ R.slots) (hlocks : meth.locks = false)
    (hx : ∀ t : State, s.vm.Alike t.vm → H.size ≤ t.heap.size → (∀ q : Nat, q < H.size → t.heap[q]? = H[q]?) → XC cls s t)
    (hf : ∀ z ∈ locs, free z.base) (hc : cells + 1 ≤ mc) (hs : slots + 6 ≤ ms) :
    W p l e R s m args below meth c H locs cells slots (vx_MQ below Qc XC args s mc ms free) (F0 m pc ls rest) := by
  intro T hT X
  have htr : e.platform.stackTraces = false := (show e.platform.stackTraces = l.stackTraces by rw [X.admits.platform]).trans hl
  have Y := vx_rebase X (R' := { frames := R.frames, locals := R.locals, cells := 1, slots := 6 }) (Nat.le_refl _) (Nat.le_refl _) hRcells hRslots
  obtain ⟨s', hA⟩ : ∃ z, z = (T.setVm s.vm).setFrames (.invoking m args :: below) := ⟨_, rfl⟩
  rw [← hA] at Y
  have hvm : s'.vm = s.vm := by rw [hA]; rfl
  have hhp : s'.heap = H := by rw [hA]; exact hT
  have hW0 : s.WarmedH s'.vm := by rw [hvm]; exact State.WarmedH.refl s
  have hat' : ∀ w ∈ vx_atS own ic cls names, w.before args s' = true := fun w hw => vx_ot_at hW0 hvm.symm (hgood w (List.mem_cons_of_mem _ (List.mem_cons_of_mem _ hw))) (hat w hw)
  have hk' : (Cond.classLink own ik cls).before args s' = true := vx_ot_at hW0 hvm.symm (hgood _ List.mem_cons_self) hk
  have hini' : (Cond.initialized cls).before args s' = true := vx_ot_at hW0 hvm.symm (hgood _ (List.mem_cons_of_mem _ List.mem_cons_self)) hini
  have hU' : vx_Zq Bundle.tN "UNASSIGNED_STACK" Bundle.steD A s' s'.heap := by rw [hhp]; exact vx_Zq.moved hW0.alike (hU.kept hS.2.1)
  have hN' : vx_Zq Bundle.tN "SUPPRESSED_SENTINEL" Bundle.listD A s' s'.heap := by rw [hhp]; exact vx_Zq.moved hW0.alike (hN.kept hS.2.1)
  have h : ∀ w ∈ Bundle.ownAtoms own ic cls names, w.before args s' = true := vx_own hat' (vx_isRefq hU'.1) (vx_isRefq hN'.1) hU'.2.word hN'.2.word
  have hown' : s'.vm.findClass own = some m.cls := by rw [hvm]; exact hown
  have hins : (Cond.instantiable cls 6).before args s' = true := h _ (by simp [Bundle.ownAtoms])
  obtain ⟨vm₁, cX, kX, hfX, hkX, -, -, X₁, st1⟩ := Y.newCold hexec (own := own) (C := cls) (index := ik) (n := 6) hown' hk' hins hini'
    (g := F0 m pc ls rest) rfl (by rw [hb]; exact d0) (Nat.le_refl _) (Nat.le_refl _)
  generalize hT1 : (T.setVm vm₁).pushCell { cls := cX, slots := kX.instanceTypes.map defaultValue, vm := .none } = T1 at X₁ st1
  have hcat : (Value.ref T.heap.size).category = 1 := rfl
  have hcellA : T1.heap[T.heap.size]? = some (freshCell cX kX) := by rw [← hT1]; exact State.heap_pushCell_size _ _
  have d3' : decode c.code (pc + 3) = .ok (.dup, 1) := by rw [hb]; exact d3
  have d4' : decode c.code (pc + 4) = .ok (.ldc is, 2) := by rw [hb]; exact d4
  have hstr' : vk_R own is text sa s' := vk_R.warm hW0 hstr
  obtain ⟨U, hsteps, hrun, hend, hW, hsame, ce, hce, hO⟩ := X₁.ctorThrowS hexec htr (own := own) (cls := cls) (names := names) (ic := ic) hown' hcls hnames h (fun x hx => nomatch hx) hfX hkX hcellA (by rw [hhp, hT]; exact Nat.le_refl _) (msg := .ref sa) rfl
    (g := { method := m, pc := pc + 6, locals := ls, stack := .ref sa :: .ref T.heap.size :: .ref T.heap.size :: rest, locked := none }) rfl hsize rfl rfl (rest := rest) rfl
    (by rw [hb]; exact d6) (by rw [hb]; exact d9) hout hRframes (by simp only [List.map_cons, List.sum_cons, hcat]; omega) hlocks
  obtain ⟨f1, f2⟩ := vx_frame hsame
  rw [hhp] at f1 f2
  have hWs : s.WarmedH U.vm := State.WarmedH.trans hW0 hW
  have hcl : s.vm.findClass cls = some ce.cls := by
    have h9 := hO.cls
    rw [hvm] at h9
    exact h9
  have hall : s.sameButNew ({ U with vm := s.vm } : State) locs mc ms := by
    subst hA
    obtain ⟨e1, e2⟩ := hsame
    rw [State.setFrames_setFrames] at e1
    have h2 : (T.setVm s.vm).sameButNew ({ U with vm := s.vm } : State) [] (0 + 1) (0 + 6) := ⟨e1, e2⟩
    have h3 := X.same.trans h2
    rw [List.append_nil] at h3
    exact h3.mono hc hs
  refine ⟨U, ?_, .threw T.heap.size, hrun, hend, Or.inr ⟨T.heap.size, rfl, cls, ce, locs, hx U hWs.alike f1 (fun q hq => f2 q hq (fun z hz => nomatch hz)), hce, hO.vm, hcl, hWs, hall, hf⟩⟩
  refine st1 _ ?_
  show Steps p.tables e below (T1.setTop { method := m, pc := pc + 3, locals := ls, stack := .ref T.heap.size :: rest, locked := none }) _
  jvm_step X₁.here [X₁.here.top, hexec, d3', Value.category]
  exact X₁.ldcString hexec (own := own) (text := text) (index := is) (a := sa) hown' hstr'.1 hstr'.2
    (g := { method := m, pc := pc + 4, locals := ls, stack := .ref T.heap.size :: .ref T.heap.size :: rest, locked := none }) rfl d4' _ hsteps
end Ends
section Bodies
variable {l : Launch}
theorem vx_ofW {y : MethodName} {ws ws' : List Cond} {rm : Room} {Pc : Array Value → State → Prop} {Qc : Array Value → State → Outcome → State → Prop} {XC : String → State → State → Prop} {mc ms : Nat} {free : Addr → Prop} {cc : ByteArray} {maxL : Nat} {ret : Option FieldType}
    (hy : plainName y.cls = true) (hw : ws = Cond.code y cc maxL ret :: ws')
    (body : ∀ p e s m args below meth c s₁, BodyLoose p l y (headSpec ws rm) cc maxL ret e s m args below meth c s₁ → c.maxLocals = maxL → (∀ x ∈ c.exceptionTable.toList, False) → Pc args s →
      W p l e (headSpec ws rm).room s m args below meth c s.heap [] 0 0 (vx_MQ below Qc XC args s mc ms free) (entryFrame m args maxL)) : vx_Met l y ws rm Pc Qc XC mc ms free := by
  refine MetFree.of_bodyS (code := cc) (maxLocals := maxL) (ret := ret) hy ?_ ?_
  · intro args s m h hn
    obtain ⟨meth, c, h1, h2, h3, h4, h5, h6, -, -⟩ := Cond.code_spec hn (atoms_spec (ws := ws) h _ (by rw [hw]; exact List.mem_cons_self))
    exact ⟨meth, c, h1, h2, h3, h4, h5, h6⟩
  · intro p e s m args below meth c s₁ B hml hP _
    have hh0 : s₁.heap = s.heap := by rw [B.state]; rfl
    have ht : ∀ x ∈ c.exceptionTable.toList, False := by
      obtain ⟨meth9, c9, h1, h2, -, -, -, -, h7, -⟩ := Cond.code_spec B.named (atoms_spec (ws := ws) B.pre _ (by rw [hw]; exact List.mem_cons_self))
      cases Option.some.inj (h1.symm.trans B.method)
      cases Option.some.inj (h2.symm.trans (Stand.of_body B).code)
      intro x hx
      rw [Array.isEmpty_iff.mp h7] at hx
      cases hx
    obtain ⟨t, a1, o, b1, b2, b3⟩ := body p e s m args below meth c s₁ B hml ht hP s₁ hh0 (Stand.of_body B)
    exact ⟨t, o, a1, b1, b2, b3⟩
/-- the table of a body with handlers -/
theorem vx_table {p : Program} {x y : MethodName} {S : Spec} {cc bytes : ByteArray} {maxL maxL' : Nat} {ret ret' : Option FieldType} {e : Env} {s s₁ : State} {m : MethodId} {args : Array Value} {below : List Frame} {meth : Method} {c : Code} {hh : List (Nat × Nat × Nat × Nat)}
    (B : BodyLoose p l y S cc maxL ret e s m args below meth c s₁) (h : (Cond.codeWith y bytes maxL' ret' hh).before args s = true) : c.exceptionTable.toList = tableOf hh := by
  obtain ⟨m9, meth9, c9, hn9, h1, h2, -, -, h6, -⟩ := Cond.codeWith_spec h
  cases Option.some.inj (hn9.symm.trans B.named)
  cases Option.some.inj (h1.symm.trans B.method)
  cases Option.some.inj (h2.symm.trans (Stand.of_body B).code)
  rw [← h6, table_eq]
end Bodies
end VXA
/-! ===== END ===== -/
/-! ===== BEGIN a static call of a method with an exception table ===== -/
section VXS
variable {p : Program} {l : Launch} {e : Env} {R : Room} {s : State} {m : MethodId} {args : Array Value} {below : List Frame} {meth : Method} {c : Code} {T : State} {H : Heap} {locs : List Loc} {cells slots : Nat}
abbrev vx_CSW (R : Room) (s : State) (args : Array Value) (own : String) (index : Nat) (y : MethodName) (bytes : ByteArray) (maxL : Nat) (ret : Option FieldType) (hh : List (Nat × Nat × Nat × Nat)) (ws : List Cond) (rm : Room) (mc ms n : Nat) : Prop :=
  (rm.cells = mc ∧ rm.slots = ms ∧ rm.frames + 1 ≤ R.frames ∧ 8 + (maxL + 11) + rm.locals ≤ R.locals ∧ (∀ w ∈ ws, ∀ (a' : Array Value) (U : State), s.WarmedH U.vm → w.before a' U = true) ∧ Cond.codeWith y bytes maxL ret hh ∈ ws) ∧
  (Cond.codeWith y bytes maxL ret hh).before args s = true ∧ (Cond.initialized y.cls).before args s = true ∧ (y.cls ≠ "java/lang/invoke/MethodHandle" ∧ y.cls ≠ "java/lang/invoke/VarHandle") ∧
  (∀ sig, parseMethodDescriptor y.desc = some sig → n = sig.parameters.length) ∧ (Cond.methodLink own index y).before args s = true ∧ (Cond.static y).before args s = true
theorem vx_callSW (X : Stand p l e R s m args below meth c T locs cells slots) (hexec : p.tables.exec = Jvm.exec) {own : String} {index : Nat} {y : MethodName} {bytes : ByteArray} {maxL : Nat} {ret : Option FieldType} {hh : List (Nat × Nat × Nat × Nat)}
    (hown : s.vm.findClass own = some m.cls) (hlink : (Cond.methodLink own index y).before args s = true) (hstat : (Cond.static y).before args s = true) (hinit : (Cond.initialized y.cls).before args s = true)
    (hcode : (Cond.codeWith y bytes maxL ret hh).before args s = true) (hy : y.cls ≠ "java/lang/invoke/MethodHandle" ∧ y.cls ≠ "java/lang/invoke/VarHandle")
    {W9 : Nat} {Pre : Pt → Array Value → Prop} {Post : Pt → Array Value → Option Value → Pt → Prop} (hK : Back l R p e below s args y 3 W9 Pre Post)
    {g : JFrame} (hg : g.method = m) (hsize : g.locals.size = c.maxLocals) {argsL rest : List Value} (hlen : ∀ sig, parseMethodDescriptor y.desc = some sig → argsL.length = sig.parameters.length)
    (hstack : g.stack = argsL.reverse ++ rest) (hW : 2 * g.monitorRoom + (rest.map fun v => v.category).sum ≤ W9) (hdg : decode c.code g.pc = .ok (.invokestatic index, 3))
    (hpre : ∀ vm₁, s.WarmedH vm₁ → Pre ⟨T.setVm vm₁, locs, cells, slots⟩ argsL.toArray) :
    ∃ (v : Option Value) (vm₁ : Vm) (B : Pt), s.WarmedH vm₁ ∧ Stand p l e R s m args below meth c B.U B.locs B.cells B.slots ∧ Post ⟨T.setVm vm₁, locs, cells, slots⟩ argsL.toArray v B ∧
      ∀ target, Steps p.tables e below (B.U.setTop { g with pc := g.pc + 3, stack := v.toList ++ rest }) target → Steps p.tables e below (T.setTop g) target := by
  obtain ⟨mk, methM, cM, hnamed, hmethM, -, -, -, -, -, -, hsigM⟩ := Cond.codeWith_spec hcode
  have hstatic : methM.isStatic = true := Cond.static_spec hnamed hmethM hstat
  obtain ⟨kP, hkP, -⟩ := className_of_methodNamed hnamed
  have hinitP : kP.init = .initialized := Cond.initialized_spec (findClass_of_methodNamed hnamed) hkP hinit
  obtain ⟨vm₁, X₁, hstep₁⟩ := X.invokestatic hexec hown hlink hnamed hmethM hstatic hkP hinitP hy (g := g) hg (argsL := argsL) (rest := rest) (hlen _ hsigM) hstack hdg
  obtain ⟨v, B, X', hpost, hsteps⟩ := hK m meth c ⟨T.setVm vm₁, locs, cells, slots⟩ { g with stack := rest } (.invokestatic index) mk argsL.toArray X₁ hg hsize hdg hW (X₁.named hnamed) (hpre vm₁ X₁.warmed)
  exact ⟨v, vm₁, B, X₁.warmed, X', hpost, fun target h => hstep₁ _ fun acts => by rw [doInvoke_state]; exact hsteps.trans h⟩
theorem vx_runSW {y : MethodName} {bytes cc : ByteArray} {maxL nL mc ms n index : Nat} {ret : Option FieldType} {hh : List (Nat × Nat × Nat × Nat)} {ws : List Cond} {rm : Room} {Pc : Array Value → State → Prop} {Qc : Array Value → State → Outcome → State → Prop} {free : Addr → Prop} {Ts : List Cond} {own : String} {As rest : List Value} {g : JFrame}
    (S : CallFix p m c cc nL s args Ts own) (hM : Met l y ws rm Pc Qc mc ms free) (cw : vx_CSW R s args own index y bytes maxL ret hh ws rm mc ms n) (hp : PreS s H Pc As)
    (hg : g.method = m) (hn : As.length = n) (hsize : g.locals.size = nL) (hstack : g.stack = As.reverse ++ rest) (hW : 2 * g.monitorRoom + (rest.map fun v => v.category).sum ≤ 8) (hdg : decode cc g.pc = .ok (.invokestatic index, 3)) (hf : cells + mc ≤ R.cells ∧ slots + ms ≤ R.slots) :
    va_Run p l e R s m args below meth c H locs cells slots mc ms g rest (Qc As.toArray) (free) := by
  obtain ⟨⟨hrc, hrs, hfr, hlo, hws, hcw⟩, hcode, hini, hy, hlen, hl, hstt⟩ := cw
  have hK : Back l R p e below s args y 3 8 (PreOf R mc ms Pc) (PostOf Qc mc ms free) := va_backW (hh := hh) (bytes := bytes) (maxL := maxL) (ret := ret) hM hp.1 hrc hrs hfr hlo hws hcw (fun a' U hW => word_at hW (Or.inl (by first | rfl | simp [Cond.onTables, Cond.keeps, Cond.steady])) hini)
  obtain ⟨hx, hb, hml, ho, -⟩ := S
  intro T hT X
  obtain ⟨v, vm₁, ⟨U', l2, c2, s2⟩, hW₁, X', ⟨g', mk, t, L, e1, e2, hq, h1, hL, h2, h3⟩, st⟩ := vx_callSW X hx (hh := hh) (bytes := bytes) (maxL := maxL) (ret := ret) ho hl hstt hini hcode hy hK hg (hsize.trans hml.symm) (argsL := As) (rest := rest) (fun sig h => hn.trans (hlen sig h)) hstack hW (by rw [hb]; exact hdg)
    (fun vm₁ hW₁ => ⟨hf.1, hf.2, hp.2 (T.setVm vm₁) hT hW₁⟩)
  dsimp only [Pt.U, Pt.locs, Pt.cells, Pt.slots] at X' e1 e2 h1 h2 h3 st
  subst h1; subst h2; subst h3
  exact ⟨v, (T.setVm vm₁).calling g' mk As.toArray, t, U', L, hT, X', hL, e1, e2, hq, st⟩
end VXS
/-! ===== END ===== -/
/-! ===== BEGIN methods with a table of their own: called by a name, returning or throwing ===== -/
section VXH
/-! vx_backW, vx_callVX, vx_callSX, vx_callVW, vx_runVW, vx_runVX, vx_runSX, vx_ofWH follow the same proofs as their sisters above (Free/Laws.lean, Shelf42/LK1.lean); vx_outP calls Shelf42/NT130.lean (outThrough). -/
section
variable {l : Launch} {R : Room} {p : Program} {e : Env} {below : List Frame} {s : State} {sargs : Array Value} {y : MethodName} {len W9 : Nat}
end
variable {p : Program} {l : Launch} {e : Env} {R : Room} {s : State} {m : MethodId} {args : Array Value} {below : List Frame} {meth : Method} {c : Code} {T : State} {H : Heap} {locs : List Loc} {cells slots : Nat}
section
variable {y : MethodName} {bytes cc : ByteArray} {maxL nL mc ms n index : Nat} {ret : Option FieldType} {ws : List Cond} {rm : Room} {Pc : Array Value → State → Prop} {Qc : Array Value → State → Outcome → State → Prop} {XC : String → State → State → Prop} {free : Addr → Prop} {Ts : List Cond} {own C : String} {b : Addr} {As rest : List Value} {g : JFrame}
end
end VXH
/-! ===== END ===== -/
end
section
def RX0 : String := "UpdateSteps$Changes"
def TX0 : u_T := fun k => match k with
  | 0 => ("UpdateSteps$Changes", "graph", "[I", true)
  | 1 => ("UpdateSteps$Changes", "fact", "[I", true)
  | 2 => ("UpdateSteps$Changes", "came", "[I", true)
  | _ => ("UpdateSteps$Changes", "count", "I", false)
def tyX0 : Nat → FieldType := fun k => match k with
  | 0 => .array .int
  | 1 => .array .int
  | 2 => .array .int
  | _ => .int
theorem nmX0 : ∀ a, a < 4 → ∀ b, b < 4 → a ≠ b → (TX0 a).2.1 ≠ (TX0 b).2.1 := by decide +kernel
theorem tyX0_ok : ∀ k, k < 4 → parseFieldDescriptor (TX0 k).2.2.1 = some (tyX0 k) := by decide +kernel
abbrev cX0_init : ByteArray := prog_2_method_1_code
def yX0_init : MethodName := ⟨RX0, "<init>", "()V"⟩
abbrev cX0_compare : ByteArray := prog_2_method_2_code
def yX0_compare : MethodName := ⟨RX0, "compare", "(LUpdateSteps$Store;LUpdateSteps$Store;)V"⟩
abbrev cX0_compareGraphs : ByteArray := prog_2_method_3_code
def yX0_compareGraphs : MethodName := ⟨RX0, "compareGraphs", "(ILUpdateSteps$Graph;LUpdateSteps$Graph;)V"⟩
abbrev cX0_note : ByteArray := prog_2_method_4_code
def yX0_note : MethodName := ⟨RX0, "note", "(III)V"⟩
def RX1 : String := "UpdateSteps$FileRows"
def TX1 : u_T := fun k => match k with
  | 0 => ("UpdateSteps$FileRows", "rows", "LUpdateSteps$Rows;", true)
  | _ => ("UpdateSteps$FileRows", "isTorn", "Z", false)
def tyX1 : Nat → FieldType := fun k => match k with
  | 0 => .object "UpdateSteps$Rows"
  | _ => .boolean
theorem nmX1 : ∀ a, a < 2 → ∀ b, b < 2 → a ≠ b → (TX1 a).2.1 ≠ (TX1 b).2.1 := by decide +kernel
theorem tyX1_ok : ∀ k, k < 2 → parseFieldDescriptor (TX1 k).2.2.1 = some (tyX1 k) := by decide +kernel
abbrev cX1_init : ByteArray := prog_3_method_1_code
def yX1_init : MethodName := ⟨RX1, "<init>", "()V"⟩
def RX2 : String := "UpdateSteps$Graph"
def TX2 : u_T := fun k => match k with
  | 0 => ("UpdateSteps$Graph", "facts", "[I", true)
  | 1 => ("UpdateSteps$Graph", "size", "I", false)
  | _ => ("UpdateSteps$Graph", "isThere", "Z", false)
def tyX2 : Nat → FieldType := fun k => match k with
  | 0 => .array .int
  | 1 => .int
  | _ => .boolean
theorem nmX2 : ∀ a, a < 3 → ∀ b, b < 3 → a ≠ b → (TX2 a).2.1 ≠ (TX2 b).2.1 := by decide +kernel
theorem tyX2_ok : ∀ k, k < 3 → parseFieldDescriptor (TX2 k).2.2.1 = some (tyX2 k) := by decide +kernel
abbrev cX2_init : ByteArray := prog_4_method_1_code
def yX2_init : MethodName := ⟨RX2, "<init>", "()V"⟩
abbrev cX2_placeOf : ByteArray := prog_4_method_2_code
def yX2_placeOf : MethodName := ⟨RX2, "placeOf", "(I)I"⟩
abbrev cX2_holds : ByteArray := prog_4_method_3_code
def yX2_holds : MethodName := ⟨RX2, "holds", "(I)Z"⟩
abbrev cX2_insert : ByteArray := prog_4_method_4_code
def yX2_insert : MethodName := ⟨RX2, "insert", "(I)V"⟩
abbrev cX2_remove : ByteArray := prog_4_method_5_code
def yX2_remove : MethodName := ⟨RX2, "remove", "(I)V"⟩
abbrev cX2_become : ByteArray := prog_4_method_6_code
def yX2_become : MethodName := ⟨RX2, "become", "(LUpdateSteps$Graph;)V"⟩
def RX3 : String := "UpdateSteps$Rows"
def TX3 : u_T := fun k => match k with
  | 0 => ("UpdateSteps$Rows", "terms", "[I", true)
  | 1 => ("UpdateSteps$Rows", "most", "I", true)
  | _ => ("UpdateSteps$Rows", "count", "I", false)
def tyX3 : Nat → FieldType := fun k => match k with
  | 0 => .array .int
  | 1 => .int
  | _ => .int
theorem nmX3 : ∀ a, a < 3 → ∀ b, b < 3 → a ≠ b → (TX3 a).2.1 ≠ (TX3 b).2.1 := by decide +kernel
theorem tyX3_ok : ∀ k, k < 3 → parseFieldDescriptor (TX3 k).2.2.1 = some (tyX3 k) := by decide +kernel
abbrev cX3_init : ByteArray := prog_5_method_1_code
def yX3_init : MethodName := ⟨RX3, "<init>", "(I)V"⟩
abbrev cX3_isFull : ByteArray := prog_5_method_2_code
def yX3_isFull : MethodName := ⟨RX3, "isFull", "()Z"⟩
abbrev cX3_append : ByteArray := prog_5_method_3_code
def yX3_append : MethodName := ⟨RX3, "append", "(III)I"⟩
abbrev cX3_subject : ByteArray := prog_5_method_4_code
def yX3_subject : MethodName := ⟨RX3, "subject", "(I)I"⟩
abbrev cX3_property : ByteArray := prog_5_method_5_code
def yX3_property : MethodName := ⟨RX3, "property", "(I)I"⟩
abbrev cX3_object : ByteArray := prog_5_method_6_code
def yX3_object : MethodName := ⟨RX3, "object", "(I)I"⟩
def RX4 : String := "UpdateSteps$Search"
def TX4 : u_T := fun k => match k with
  | 0 => ("UpdateSteps$Search", "valuesAt", "[[I", true)
  | 1 => ("UpdateSteps$Search", "solved", "[I", true)
  | 2 => ("UpdateSteps$Search", "found", "I", false)
  | _ => ("UpdateSteps$Search", "work", "I", false)
def tyX4 : Nat → FieldType := fun k => match k with
  | 0 => .array (.array .int)
  | 1 => .array .int
  | 2 => .int
  | _ => .int
theorem nmX4 : ∀ a, a < 4 → ∀ b, b < 4 → a ≠ b → (TX4 a).2.1 ≠ (TX4 b).2.1 := by decide +kernel
theorem tyX4_ok : ∀ k, k < 4 → parseFieldDescriptor (TX4 k).2.2.1 = some (tyX4 k) := by decide +kernel
abbrev cX4_init : ByteArray := prog_6_method_1_code
def yX4_init : MethodName := ⟨RX4, "<init>", "()V"⟩
abbrev cX4_find : ByteArray := prog_6_method_2_code
def yX4_find : MethodName := ⟨RX4, "find", "(LUpdateSteps$Rows;LUpdateSteps$Graph;)Z"⟩
abbrev cX4_valueIn : ByteArray := prog_6_method_3_code
def yX4_valueIn : MethodName := ⟨RX4, "valueIn", "(II)I"⟩
abbrev cX4_goOn : ByteArray := prog_6_method_4_code
def yX4_goOn : MethodName := ⟨RX4, "goOn", "(LUpdateSteps$Rows;LUpdateSteps$Graph;I)Z"⟩
abbrev cX4_holdAgainst : ByteArray := prog_6_method_5_code
def yX4_holdAgainst : MethodName := ⟨RX4, "holdAgainst", "(LUpdateSteps$Rows;LUpdateSteps$Graph;II)Z"⟩
abbrev cX4_keep : ByteArray := prog_6_method_6_code
def yX4_keep : MethodName := ⟨RX4, "keep", "([I)Z"⟩
abbrev cX4_fits : ByteArray := prog_6_method_7_code
def yX4_fits : MethodName := ⟨RX4, "fits", "(LUpdateSteps$Rows;II)Z"⟩
abbrev cX4_agrees : ByteArray := prog_6_method_8_code
def yX4_agrees : MethodName := ⟨RX4, "agrees", "([III)Z"⟩
def RX5 : String := "UpdateSteps$Step"
def TX5 : u_T := fun k => match k with
  | 0 => ("UpdateSteps$Step", "templates", "LUpdateSteps$Rows;", true)
  | 1 => ("UpdateSteps$Step", "templateAdds", "[Z", true)
  | 2 => ("UpdateSteps$Step", "patternRows", "LUpdateSteps$Rows;", true)
  | 3 => ("UpdateSteps$Step", "kind", "I", false)
  | 4 => ("UpdateSteps$Step", "from", "I", false)
  | 5 => ("UpdateSteps$Step", "to", "I", false)
  | 6 => ("UpdateSteps$Step", "isSilent", "Z", false)
  | _ => ("UpdateSteps$Step", "found", "I", false)
def tyX5 : Nat → FieldType := fun k => match k with
  | 0 => .object "UpdateSteps$Rows"
  | 1 => .array .boolean
  | 2 => .object "UpdateSteps$Rows"
  | 3 => .int
  | 4 => .int
  | 5 => .int
  | 6 => .boolean
  | _ => .int
theorem nmX5 : ∀ a, a < 8 → ∀ b, b < 8 → a ≠ b → (TX5 a).2.1 ≠ (TX5 b).2.1 := by decide +kernel
theorem tyX5_ok : ∀ k, k < 8 → parseFieldDescriptor (TX5 k).2.2.1 = some (tyX5 k) := by decide +kernel
abbrev cX5_init : ByteArray := prog_7_method_1_code
def yX5_init : MethodName := ⟨RX5, "<init>", "()V"⟩
abbrev cX5_begin : ByteArray := prog_7_method_2_code
def yX5_begin : MethodName := ⟨RX5, "begin", "(III)V"⟩
abbrev cX5_addTemplate : ByteArray := prog_7_method_3_code
def yX5_addTemplate : MethodName := ⟨RX5, "addTemplate", "(IIIZ)I"⟩
def RX6 : String := "UpdateSteps$Store"
def TX6 : u_T := fun k => match k with
  | 0 => ("UpdateSteps$Store", "graphs", "[LUpdateSteps$Graph;", true)
  | _ => ("UpdateSteps$Store", "blanks", "I", false)
def tyX6 : Nat → FieldType := fun k => match k with
  | 0 => .array (.object "UpdateSteps$Graph")
  | _ => .int
theorem nmX6 : ∀ a, a < 2 → ∀ b, b < 2 → a ≠ b → (TX6 a).2.1 ≠ (TX6 b).2.1 := by decide +kernel
theorem tyX6_ok : ∀ k, k < 2 → parseFieldDescriptor (TX6 k).2.2.1 = some (tyX6 k) := by decide +kernel
abbrev cX6_init : ByteArray := prog_8_method_1_code
def yX6_init : MethodName := ⟨RX6, "<init>", "()V"⟩
abbrev cX6_factCount : ByteArray := prog_8_method_2_code
def yX6_factCount : MethodName := ⟨RX6, "factCount", "()I"⟩
abbrev cX6_put : ByteArray := prog_8_method_3_code
def yX6_put : MethodName := ⟨RX6, "put", "(LUpdateSteps$Graph;I)Z"⟩
abbrev cX6_drop : ByteArray := prog_8_method_4_code
def yX6_drop : MethodName := ⟨RX6, "drop", "(I)V"⟩
abbrev cX6_makeBlank : ByteArray := prog_8_method_5_code
def yX6_makeBlank : MethodName := ⟨RX6, "makeBlank", "()I"⟩
abbrev cX6_become : ByteArray := prog_8_method_6_code
def yX6_become : MethodName := ⟨RX6, "become", "(LUpdateSteps$Store;)V"⟩
def RX7 : String := "UpdateSteps$Worker"
def TX7 : u_T := fun k => match k with
  | 0 => ("UpdateSteps$Worker", "store", "LUpdateSteps$Store;", true)
  | 1 => ("UpdateSteps$Worker", "files", "[LUpdateSteps$FileRows;", true)
  | 2 => ("UpdateSteps$Worker", "search", "LUpdateSteps$Search;", true)
  | 3 => ("UpdateSteps$Worker", "newBlanks", "[I", true)
  | _ => ("UpdateSteps$Worker", "work", "I", false)
def tyX7 : Nat → FieldType := fun k => match k with
  | 0 => .object "UpdateSteps$Store"
  | 1 => .array (.object "UpdateSteps$FileRows")
  | 2 => .object "UpdateSteps$Search"
  | 3 => .array .int
  | _ => .int
theorem nmX7 : ∀ a, a < 5 → ∀ b, b < 5 → a ≠ b → (TX7 a).2.1 ≠ (TX7 b).2.1 := by decide +kernel
theorem tyX7_ok : ∀ k, k < 5 → parseFieldDescriptor (TX7 k).2.2.1 = some (tyX7 k) := by decide +kernel
abbrev cX7_init : ByteArray := prog_9_method_1_code
def yX7_init : MethodName := ⟨RX7, "<init>", "()V"⟩
abbrev cX7_perform : ByteArray := prog_9_method_2_code
def yX7_perform : MethodName := ⟨RX7, "perform", "(LUpdateSteps$Step;)I"⟩
abbrev cX7_takeAllFacts : ByteArray := prog_9_method_3_code
def yX7_takeAllFacts : MethodName := ⟨RX7, "takeAllFacts", "(LUpdateSteps$Step;)I"⟩
abbrev cX7_makeGraph : ByteArray := prog_9_method_4_code
def yX7_makeGraph : MethodName := ⟨RX7, "makeGraph", "(LUpdateSteps$Step;)I"⟩
abbrev cX7_bringGraph : ByteArray := prog_9_method_5_code
def yX7_bringGraph : MethodName := ⟨RX7, "bringGraph", "(LUpdateSteps$Step;)I"⟩
abbrev cX7_addGraph : ByteArray := prog_9_method_6_code
def yX7_addGraph : MethodName := ⟨RX7, "addGraph", "(LUpdateSteps$Graph;LUpdateSteps$Graph;)I"⟩
abbrev cX7_readFile : ByteArray := prog_9_method_7_code
def yX7_readFile : MethodName := ⟨RX7, "readFile", "(LUpdateSteps$Step;)I"⟩
abbrev cX7_rewrite : ByteArray := prog_9_method_8_code
def yX7_rewrite : MethodName := ⟨RX7, "rewrite", "(LUpdateSteps$Step;)I"⟩
abbrev cX7_takeAwayFor : ByteArray := prog_9_method_9_code
def yX7_takeAwayFor : MethodName := ⟨RX7, "takeAwayFor", "(LUpdateSteps$Step;I)V"⟩
abbrev cX7_addFor : ByteArray := prog_9_method_10_code
def yX7_addFor : MethodName := ⟨RX7, "addFor", "(LUpdateSteps$Step;I)Z"⟩
abbrev cX7_applyRow : ByteArray := prog_9_method_11_code
def yX7_applyRow : MethodName := ⟨RX7, "applyRow", "(LUpdateSteps$Step;II)Z"⟩
abbrev cX7_valueOf : ByteArray := prog_9_method_12_code
def yX7_valueOf : MethodName := ⟨RX7, "valueOf", "(II)I"⟩
abbrev cX7_withBlank : ByteArray := prog_9_method_13_code
def yX7_withBlank : MethodName := ⟨RX7, "withBlank", "(I)I"⟩
def RX8 : String := "UpdateSteps"
def TX8 : u_T := fun k => match k with
  | 0 => ("UpdateSteps", "steps", "[LUpdateSteps$Step;", true)
  | 1 => ("UpdateSteps", "worker", "LUpdateSteps$Worker;", true)
  | 2 => ("UpdateSteps", "store", "LUpdateSteps$Store;", true)
  | 3 => ("UpdateSteps", "before", "LUpdateSteps$Store;", true)
  | 4 => ("UpdateSteps", "changes", "LUpdateSteps$Changes;", true)
  | 5 => ("UpdateSteps", "stepCount", "I", false)
  | 6 => ("UpdateSteps", "failedStep", "I", false)
  | _ => ("UpdateSteps", "latestWork", "I", false)
def tyX8 : Nat → FieldType := fun k => match k with
  | 0 => .array (.object "UpdateSteps$Step")
  | 1 => .object "UpdateSteps$Worker"
  | 2 => .object "UpdateSteps$Store"
  | 3 => .object "UpdateSteps$Store"
  | 4 => .object "UpdateSteps$Changes"
  | 5 => .int
  | 6 => .int
  | _ => .int
theorem nmX8 : ∀ a, a < 8 → ∀ b, b < 8 → a ≠ b → (TX8 a).2.1 ≠ (TX8 b).2.1 := by decide +kernel
theorem tyX8_ok : ∀ k, k < 8 → parseFieldDescriptor (TX8 k).2.2.1 = some (tyX8 k) := by decide +kernel
abbrev cX8_init : ByteArray := prog_1_method_1_code
def yX8_init : MethodName := ⟨RX8, "<init>", "()V"⟩
abbrev cX8_step : ByteArray := prog_1_method_2_code
def yX8_step : MethodName := ⟨RX8, "step", "(III)I"⟩
abbrev cX8_silent : ByteArray := prog_1_method_3_code
def yX8_silent : MethodName := ⟨RX8, "silent", "(IZ)Z"⟩
abbrev cX8_template : ByteArray := prog_1_method_4_code
def yX8_template : MethodName := ⟨RX8, "template", "(IIIIZ)I"⟩
abbrev cX8_pattern : ByteArray := prog_1_method_5_code
def yX8_pattern : MethodName := ⟨RX8, "pattern", "(IIII)I"⟩
abbrev cX8_file : ByteArray := prog_1_method_6_code
def yX8_file : MethodName := ⟨RX8, "file", "(IIII)I"⟩
abbrev cX8_torn : ByteArray := prog_1_method_7_code
def yX8_torn : MethodName := ⟨RX8, "torn", "(IZ)Z"⟩
abbrev cX8_run : ByteArray := prog_1_method_8_code
def yX8_run : MethodName := ⟨RX8, "run", "()I"⟩
abbrev cX8_fails : ByteArray := prog_1_method_9_code
def yX8_fails : MethodName := ⟨RX8, "fails", "()I"⟩
abbrev cX8_clear : ByteArray := prog_1_method_10_code
def yX8_clear : MethodName := ⟨RX8, "clear", "()I"⟩
abbrev cX8_many : ByteArray := prog_1_method_11_code
def yX8_many : MethodName := ⟨RX8, "many", "(I)I"⟩
abbrev cX8_at : ByteArray := prog_1_method_12_code
def yX8_at : MethodName := ⟨RX8, "at", "(III)I"⟩
abbrev cX8_has : ByteArray := prog_1_method_13_code
def yX8_has : MethodName := ⟨RX8, "has", "(IIII)Z"⟩
abbrev cX8_changed : ByteArray := prog_1_method_14_code
def yX8_changed : MethodName := ⟨RX8, "changed", "(II)I"⟩
abbrev cX8_solutions : ByteArray := prog_1_method_15_code
def yX8_solutions : MethodName := ⟨RX8, "solutions", "(I)I"⟩
abbrev cX8_told : ByteArray := prog_1_method_16_code
def yX8_told : MethodName := ⟨RX8, "told", "(I)I"⟩
abbrev cX8_stepNumbered : ByteArray := prog_1_method_17_code
def yX8_stepNumbered : MethodName := ⟨RX8, "stepNumbered", "(I)LUpdateSteps$Step;"⟩
abbrev cX8_fileNumbered : ByteArray := prog_1_method_18_code
def yX8_fileNumbered : MethodName := ⟨RX8, "fileNumbered", "(I)LUpdateSteps$FileRows;"⟩
abbrev cX8_graphNumbered : ByteArray := prog_1_method_19_code
def yX8_graphNumbered : MethodName := ⟨RX8, "graphNumbered", "(I)LUpdateSteps$Graph;"⟩
abbrev cX8_isGraph : ByteArray := prog_1_method_20_code
def yX8_isGraph : MethodName := ⟨RX8, "isGraph", "(I)Z"⟩
abbrev cX8_fromCounts : ByteArray := prog_1_method_21_code
def yX8_fromCounts : MethodName := ⟨RX8, "fromCounts", "(I)Z"⟩
abbrev cX8_fromMayBe : ByteArray := prog_1_method_22_code
def yX8_fromMayBe : MethodName := ⟨RX8, "fromMayBe", "(II)Z"⟩
abbrev cX8_toMayBe : ByteArray := prog_1_method_23_code
def yX8_toMayBe : MethodName := ⟨RX8, "toMayBe", "(II)Z"⟩
abbrev cX8_templateMayBe : ByteArray := prog_1_method_24_code
def yX8_templateMayBe : MethodName := ⟨RX8, "templateMayBe", "(IZ)Z"⟩
abbrev cX8_templateTermMayBe : ByteArray := prog_1_method_25_code
def yX8_templateTermMayBe : MethodName := ⟨RX8, "templateTermMayBe", "(IZI)Z"⟩
abbrev cX8_patternTermMayBe : ByteArray := prog_1_method_26_code
def yX8_patternTermMayBe : MethodName := ⟨RX8, "patternTermMayBe", "(I)Z"⟩
abbrev cX8_isName : ByteArray := prog_1_method_27_code
def yX8_isName : MethodName := ⟨RX8, "isName", "(I)Z"⟩
abbrev cX8_isVariable : ByteArray := prog_1_method_28_code
def yX8_isVariable : MethodName := ⟨RX8, "isVariable", "(I)Z"⟩
abbrev cX8_isNewBlank : ByteArray := prog_1_method_29_code
def yX8_isNewBlank : MethodName := ⟨RX8, "isNewBlank", "(I)Z"⟩
abbrev cX8_isPassedOver : ByteArray := prog_1_method_30_code
def yX8_isPassedOver : MethodName := ⟨RX8, "isPassedOver", "(LUpdateSteps$Step;I)Z"⟩
abbrev cX8_factOf : ByteArray := prog_1_method_31_code
def yX8_factOf : MethodName := ⟨RX8, "factOf", "(III)I"⟩
abbrev cX8_partOf : ByteArray := prog_1_method_32_code
def yX8_partOf : MethodName := ⟨RX8, "partOf", "(II)I"⟩
abbrev cX8_isPart : ByteArray := prog_1_method_33_code
def yX8_isPart : MethodName := ⟨RX8, "isPart", "(I)Z"⟩
def RX9 : String := "UpdateStepsModel"
def TX9 : u_T := fun k => match k with
  | 0 => ("UpdateStepsModel", "fault", "I", false)
  | 1 => ("UpdateStepsModel", "steps", "I", false)
  | 2 => ("UpdateStepsModel", "kinds", "[I", true)
  | 3 => ("UpdateStepsModel", "froms", "[I", true)
  | 4 => ("UpdateStepsModel", "tos", "[I", true)
  | 5 => ("UpdateStepsModel", "silents", "[Z", true)
  | 6 => ("UpdateStepsModel", "templates", "[I", true)
  | 7 => ("UpdateStepsModel", "templateS", "[I", true)
  | 8 => ("UpdateStepsModel", "templateP", "[I", true)
  | 9 => ("UpdateStepsModel", "templateO", "[I", true)
  | 10 => ("UpdateStepsModel", "templateAdds", "[Z", true)
  | 11 => ("UpdateStepsModel", "patterns", "[I", true)
  | 12 => ("UpdateStepsModel", "patternS", "[I", true)
  | 13 => ("UpdateStepsModel", "patternP", "[I", true)
  | 14 => ("UpdateStepsModel", "patternO", "[I", true)
  | 15 => ("UpdateStepsModel", "files", "[I", true)
  | 16 => ("UpdateStepsModel", "fileS", "[I", true)
  | 17 => ("UpdateStepsModel", "fileP", "[I", true)
  | 18 => ("UpdateStepsModel", "fileO", "[I", true)
  | 19 => ("UpdateStepsModel", "isTorn", "[Z", true)
  | 20 => ("UpdateStepsModel", "facts", "I", false)
  | 21 => ("UpdateStepsModel", "graphs", "[I", true)
  | 22 => ("UpdateStepsModel", "subjects", "[I", true)
  | 23 => ("UpdateStepsModel", "properties", "[I", true)
  | 24 => ("UpdateStepsModel", "objects", "[I", true)
  | 25 => ("UpdateStepsModel", "isThere", "[Z", true)
  | 26 => ("UpdateStepsModel", "blanks", "I", false)
  | 27 => ("UpdateStepsModel", "oldFacts", "I", false)
  | 28 => ("UpdateStepsModel", "oldGraphs", "[I", true)
  | 29 => ("UpdateStepsModel", "oldSubjects", "[I", true)
  | 30 => ("UpdateStepsModel", "oldProperties", "[I", true)
  | 31 => ("UpdateStepsModel", "oldObjects", "[I", true)
  | 32 => ("UpdateStepsModel", "wasThere", "[Z", true)
  | 33 => ("UpdateStepsModel", "oldBlanks", "I", false)
  | 34 => ("UpdateStepsModel", "changes", "I", false)
  | 35 => ("UpdateStepsModel", "changeGraph", "[I", true)
  | 36 => ("UpdateStepsModel", "changeS", "[I", true)
  | 37 => ("UpdateStepsModel", "changeP", "[I", true)
  | 38 => ("UpdateStepsModel", "changeO", "[I", true)
  | 39 => ("UpdateStepsModel", "changeCame", "[Z", true)
  | 40 => ("UpdateStepsModel", "solved", "[I", true)
  | 41 => ("UpdateStepsModel", "work", "I", false)
  | 42 => ("UpdateStepsModel", "failed", "I", false)
  | 43 => ("UpdateStepsModel", "ways", "I", false)
  | 44 => ("UpdateStepsModel", "values", "[I", true)
  | 45 => ("UpdateStepsModel", "more", "I", false)
  | 46 => ("UpdateStepsModel", "next", "[I", true)
  | 47 => ("UpdateStepsModel", "rows", "I", false)
  | 48 => ("UpdateStepsModel", "order", "[I", true)
  | _ => ("UpdateStepsModel", "made", "[I", true)
def tyX9 : Nat → FieldType := fun k => match k with
  | 0 => .int
  | 1 => .int
  | 2 => .array .int
  | 3 => .array .int
  | 4 => .array .int
  | 5 => .array .boolean
  | 6 => .array .int
  | 7 => .array .int
  | 8 => .array .int
  | 9 => .array .int
  | 10 => .array .boolean
  | 11 => .array .int
  | 12 => .array .int
  | 13 => .array .int
  | 14 => .array .int
  | 15 => .array .int
  | 16 => .array .int
  | 17 => .array .int
  | 18 => .array .int
  | 19 => .array .boolean
  | 20 => .int
  | 21 => .array .int
  | 22 => .array .int
  | 23 => .array .int
  | 24 => .array .int
  | 25 => .array .boolean
  | 26 => .int
  | 27 => .int
  | 28 => .array .int
  | 29 => .array .int
  | 30 => .array .int
  | 31 => .array .int
  | 32 => .array .boolean
  | 33 => .int
  | 34 => .int
  | 35 => .array .int
  | 36 => .array .int
  | 37 => .array .int
  | 38 => .array .int
  | 39 => .array .boolean
  | 40 => .array .int
  | 41 => .int
  | 42 => .int
  | 43 => .int
  | 44 => .array .int
  | 45 => .int
  | 46 => .array .int
  | 47 => .int
  | 48 => .array .int
  | _ => .array .int
theorem nmX9 : ∀ a, a < 50 → ∀ b, b < 50 → a ≠ b → (TX9 a).2.1 ≠ (TX9 b).2.1 := by decide +kernel
theorem tyX9_ok : ∀ k, k < 50 → parseFieldDescriptor (TX9 k).2.2.1 = some (tyX9 k) := by decide +kernel
abbrev cX9_init : ByteArray := prog_11_method_1_code
def yX9_init : MethodName := ⟨RX9, "<init>", "()V"⟩
abbrev cX9_thrown : ByteArray := prog_11_method_2_code
def yX9_thrown : MethodName := ⟨RX9, "thrown", "()I"⟩
abbrev cX9_isIn : ByteArray := prog_11_method_3_code
def yX9_isIn : MethodName := ⟨RX9, "isIn", "(III)Z"⟩
abbrev cX9_isStep : ByteArray := prog_11_method_4_code
def yX9_isStep : MethodName := ⟨RX9, "isStep", "(I)Z"⟩
abbrev cX9_isTo : ByteArray := prog_11_method_5_code
def yX9_isTo : MethodName := ⟨RX9, "isTo", "(II)Z"⟩
abbrev cX9_step : ByteArray := prog_11_method_6_code
def yX9_step : MethodName := ⟨RX9, "step", "(III)I"⟩
abbrev cX9_silent : ByteArray := prog_11_method_7_code
def yX9_silent : MethodName := ⟨RX9, "silent", "(IZ)Z"⟩
abbrev cX9_isName : ByteArray := prog_11_method_8_code
def yX9_isName : MethodName := ⟨RX9, "isName", "(I)Z"⟩
abbrev cX9_isVariable : ByteArray := prog_11_method_9_code
def yX9_isVariable : MethodName := ⟨RX9, "isVariable", "(I)Z"⟩
abbrev cX9_isNew : ByteArray := prog_11_method_10_code
def yX9_isNew : MethodName := ⟨RX9, "isNew", "(I)Z"⟩
abbrev cX9_mayStand : ByteArray := prog_11_method_11_code
def yX9_mayStand : MethodName := ⟨RX9, "mayStand", "(IIZ)Z"⟩
abbrev cX9_template : ByteArray := prog_11_method_12_code
def yX9_template : MethodName := ⟨RX9, "template", "(IIIIZ)I"⟩
abbrev cX9_pattern : ByteArray := prog_11_method_13_code
def yX9_pattern : MethodName := ⟨RX9, "pattern", "(IIII)I"⟩
abbrev cX9_file : ByteArray := prog_11_method_14_code
def yX9_file : MethodName := ⟨RX9, "file", "(IIII)I"⟩
abbrev cX9_torn : ByteArray := prog_11_method_15_code
def yX9_torn : MethodName := ⟨RX9, "torn", "(IZ)Z"⟩
abbrev cX9_find : ByteArray := prog_11_method_16_code
def yX9_find : MethodName := ⟨RX9, "find", "(IIII)I"⟩
abbrev cX9_come : ByteArray := prog_11_method_17_code
def yX9_come : MethodName := ⟨RX9, "come", "(IIII)Z"⟩
abbrev cX9_leave : ByteArray := prog_11_method_18_code
def yX9_leave : MethodName := ⟨RX9, "leave", "(I)V"⟩
abbrev cX9_take : ByteArray := prog_11_method_19_code
def yX9_take : MethodName := ⟨RX9, "take", "(IIII)V"⟩
abbrev cX9_empty : ByteArray := prog_11_method_20_code
def yX9_empty : MethodName := ⟨RX9, "empty", "(I)V"⟩
abbrev cX9_dropOne : ByteArray := prog_11_method_21_code
def yX9_dropOne : MethodName := ⟨RX9, "dropOne", "(I)V"⟩
abbrev cX9_isBefore : ByteArray := prog_11_method_22_code
def yX9_isBefore : MethodName := ⟨RX9, "isBefore", "(II)Z"⟩
abbrev cX9_lineUp : ByteArray := prog_11_method_23_code
def yX9_lineUp : MethodName := ⟨RX9, "lineUp", "(I)V"⟩
abbrev cX9_valueIn : ByteArray := prog_11_method_24_code
def yX9_valueIn : MethodName := ⟨RX9, "valueIn", "([III)I"⟩
abbrev cX9_fits : ByteArray := prog_11_method_25_code
def yX9_fits : MethodName := ⟨RX9, "fits", "(II)Z"⟩
abbrev cX9_solve : ByteArray := prog_11_method_26_code
def yX9_solve : MethodName := ⟨RX9, "solve", "(I)I"⟩
abbrev cX9_isLeftOut : ByteArray := prog_11_method_27_code
def yX9_isLeftOut : MethodName := ⟨RX9, "isLeftOut", "(II)Z"⟩
abbrev cX9_comes : ByteArray := prog_11_method_28_code
def yX9_comes : MethodName := ⟨RX9, "comes", "(II)I"⟩
abbrev cX9_add : ByteArray := prog_11_method_29_code
def yX9_add : MethodName := ⟨RX9, "add", "(II)Z"⟩
abbrev cX9_takeAway : ByteArray := prog_11_method_30_code
def yX9_takeAway : MethodName := ⟨RX9, "takeAway", "(II)V"⟩
abbrev cX9_change : ByteArray := prog_11_method_31_code
def yX9_change : MethodName := ⟨RX9, "change", "(I)I"⟩
abbrev cX9_wipe : ByteArray := prog_11_method_32_code
def yX9_wipe : MethodName := ⟨RX9, "wipe", "(IZ)I"⟩
abbrev cX9_copy : ByteArray := prog_11_method_33_code
def yX9_copy : MethodName := ⟨RX9, "copy", "(I)I"⟩
abbrev cX9_readFile : ByteArray := prog_11_method_34_code
def yX9_readFile : MethodName := ⟨RX9, "readFile", "(I)I"⟩
abbrev cX9_act : ByteArray := prog_11_method_35_code
def yX9_act : MethodName := ⟨RX9, "act", "(I)I"⟩
abbrev cX9_keep : ByteArray := prog_11_method_36_code
def yX9_keep : MethodName := ⟨RX9, "keep", "()V"⟩
abbrev cX9_goBack : ByteArray := prog_11_method_37_code
def yX9_goBack : MethodName := ⟨RX9, "goBack", "()V"⟩
abbrev cX9_note : ByteArray := prog_11_method_38_code
def yX9_note : MethodName := ⟨RX9, "note", "(IIIIZ)V"⟩
abbrev cX9_isAfter : ByteArray := prog_11_method_39_code
def yX9_isAfter : MethodName := ⟨RX9, "isAfter", "(IIIII)Z"⟩
abbrev cX9_wasIn : ByteArray := prog_11_method_40_code
def yX9_wasIn : MethodName := ⟨RX9, "wasIn", "(IIII)Z"⟩
abbrev cX9_noteAll : ByteArray := prog_11_method_41_code
def yX9_noteAll : MethodName := ⟨RX9, "noteAll", "()V"⟩
abbrev cX9_run : ByteArray := prog_11_method_42_code
def yX9_run : MethodName := ⟨RX9, "run", "()I"⟩
abbrev cX9_fails : ByteArray := prog_11_method_43_code
def yX9_fails : MethodName := ⟨RX9, "fails", "()I"⟩
abbrev cX9_clear : ByteArray := prog_11_method_44_code
def yX9_clear : MethodName := ⟨RX9, "clear", "()I"⟩
abbrev cX9_many : ByteArray := prog_11_method_45_code
def yX9_many : MethodName := ⟨RX9, "many", "(I)I"⟩
abbrev cX9_at : ByteArray := prog_11_method_46_code
def yX9_at : MethodName := ⟨RX9, "at", "(III)I"⟩
abbrev cX9_has : ByteArray := prog_11_method_47_code
def yX9_has : MethodName := ⟨RX9, "has", "(IIII)Z"⟩
abbrev cX9_changed : ByteArray := prog_11_method_48_code
def yX9_changed : MethodName := ⟨RX9, "changed", "(II)I"⟩
abbrev cX9_solutions : ByteArray := prog_11_method_49_code
def yX9_solutions : MethodName := ⟨RX9, "solutions", "(I)I"⟩
abbrev cX9_told : ByteArray := prog_11_method_50_code
def yX9_told : MethodName := ⟨RX9, "told", "(I)I"⟩
def RJ7 : String := "java/util/Arrays"
abbrev cJ7_fill_53178 : ByteArray := prog_20_method_103_code
def yJ7_fill_53178 : MethodName := ⟨RJ7, "fill", "([II)V"⟩
def RL : String := "UpdateStepsLaw"
abbrev cL_step : ByteArray := method_3_code
def yL_step : MethodName := ⟨RL, "step", "(LUpdateSteps;III[J)I"⟩
abbrev cL_silent : ByteArray := method_4_code
def yL_silent : MethodName := ⟨RL, "silent", "(LUpdateSteps;IZ[J)I"⟩
abbrev cL_template : ByteArray := method_5_code
def yL_template : MethodName := ⟨RL, "template", "(LUpdateSteps;IIIIZ[J)I"⟩
abbrev cL_pattern : ByteArray := method_6_code
def yL_pattern : MethodName := ⟨RL, "pattern", "(LUpdateSteps;IIII[J)I"⟩
abbrev cL_file : ByteArray := method_7_code
def yL_file : MethodName := ⟨RL, "file", "(LUpdateSteps;IIII[J)I"⟩
abbrev cL_torn : ByteArray := method_8_code
def yL_torn : MethodName := ⟨RL, "torn", "(LUpdateSteps;IZ[J)I"⟩
abbrev cL_many : ByteArray := method_9_code
def yL_many : MethodName := ⟨RL, "many", "(LUpdateSteps;I[J)I"⟩
abbrev cL_at : ByteArray := method_10_code
def yL_at : MethodName := ⟨RL, "at", "(LUpdateSteps;III[J)I"⟩
abbrev cL_has : ByteArray := method_11_code
def yL_has : MethodName := ⟨RL, "has", "(LUpdateSteps;IIII[J)I"⟩
abbrev cL_changed : ByteArray := method_12_code
def yL_changed : MethodName := ⟨RL, "changed", "(LUpdateSteps;II[J)I"⟩
abbrev cL_solutions : ByteArray := method_13_code
def yL_solutions : MethodName := ⟨RL, "solutions", "(LUpdateSteps;I[J)I"⟩
abbrev cL_told : ByteArray := method_14_code
def yL_told : MethodName := ⟨RL, "told", "(LUpdateSteps;I[J)I"⟩
abbrev cL_law : ByteArray := code
abbrev vwCl : List vw_C := [(RX0, TX0, 4), (RX1, TX1, 2), (RX2, TX2, 3), (RX3, TX3, 3), (RX4, TX4, 4), (RX5, TX5, 8), (RX6, TX6, 2), (RX7, TX7, 5), (RX8, TX8, 8), (RX9, TX9, 50)]
end
end
section
theorem dk_ {c : ByteArray} {pc : Nat} {r : Instr × Nat} (h : decide (decode c pc = .ok r) = true) : decode c pc = .ok r := of_decide_eq_true h
section
theorem dX0_init_0 : decode cX0_init 0 = .ok (.aload_n 0, 1) := dk_ (by decide +kernel)
theorem dX0_init_1 : decode cX0_init 1 = .ok (.invokespecial 3, 3) := dk_ (by decide +kernel)
theorem dX0_init_4 : decode cX0_init 4 = .ok (.aload_n 0, 1) := dk_ (by decide +kernel)
theorem dX0_init_5 : decode cX0_init 5 = .ok (.sipush 240, 3) := dk_ (by decide +kernel)
theorem dX0_init_8 : decode cX0_init 8 = .ok (.newarray .int, 2) := dk_ (by decide +kernel)
theorem dX0_init_10 : decode cX0_init 10 = .ok (.putfield 9, 3) := dk_ (by decide +kernel)
theorem dX0_init_13 : decode cX0_init 13 = .ok (.aload_n 0, 1) := dk_ (by decide +kernel)
theorem dX0_init_14 : decode cX0_init 14 = .ok (.sipush 240, 3) := dk_ (by decide +kernel)
theorem dX0_init_17 : decode cX0_init 17 = .ok (.newarray .int, 2) := dk_ (by decide +kernel)
theorem dX0_init_19 : decode cX0_init 19 = .ok (.putfield 15, 3) := dk_ (by decide +kernel)
theorem dX0_init_22 : decode cX0_init 22 = .ok (.aload_n 0, 1) := dk_ (by decide +kernel)
theorem dX0_init_23 : decode cX0_init 23 = .ok (.sipush 240, 3) := dk_ (by decide +kernel)
theorem dX0_init_26 : decode cX0_init 26 = .ok (.newarray .int, 2) := dk_ (by decide +kernel)
theorem dX0_init_28 : decode cX0_init 28 = .ok (.putfield 18, 3) := dk_ (by decide +kernel)
theorem dX0_init_31 : decode cX0_init 31 = .ok (.aload_n 0, 1) := dk_ (by decide +kernel)
theorem dX0_init_32 : decode cX0_init 32 = .ok (.iconst 0, 1) := dk_ (by decide +kernel)
theorem dX0_init_33 : decode cX0_init 33 = .ok (.putfield 21, 3) := dk_ (by decide +kernel)
theorem dX0_init_36 : decode cX0_init 36 = .ok (.return_, 1) := dk_ (by decide +kernel)
theorem dX0_compare_0 : decode cX0_compare 0 = .ok (.aload_n 0, 1) := dk_ (by decide +kernel)
theorem dX0_compare_1 : decode cX0_compare 1 = .ok (.iconst 0, 1) := dk_ (by decide +kernel)
theorem dX0_compare_2 : decode cX0_compare 2 = .ok (.putfield 21, 3) := dk_ (by decide +kernel)
theorem dX0_compare_5 : decode cX0_compare 5 = .ok (.iconst 0, 1) := dk_ (by decide +kernel)
theorem dX0_compare_6 : decode cX0_compare 6 = .ok (.istore_n 3, 1) := dk_ (by decide +kernel)
theorem dX0_compare_7 : decode cX0_compare 7 = .ok (.iload_n 3, 1) := dk_ (by decide +kernel)
theorem dX0_compare_8 : decode cX0_compare 8 = .ok (.bipush 7, 2) := dk_ (by decide +kernel)
theorem dX0_compare_10 : decode cX0_compare 10 = .ok (.if_icmp .ge 26, 3) := dk_ (by decide +kernel)
theorem dX0_compare_13 : decode cX0_compare 13 = .ok (.aload_n 0, 1) := dk_ (by decide +kernel)
theorem dX0_compare_14 : decode cX0_compare 14 = .ok (.iload_n 3, 1) := dk_ (by decide +kernel)
theorem dX0_compare_15 : decode cX0_compare 15 = .ok (.aload_n 1, 1) := dk_ (by decide +kernel)
theorem dX0_compare_16 : decode cX0_compare 16 = .ok (.getfield 25, 3) := dk_ (by decide +kernel)
theorem dX0_compare_19 : decode cX0_compare 19 = .ok (.iload_n 3, 1) := dk_ (by decide +kernel)
theorem dX0_compare_20 : decode cX0_compare 20 = .ok (.aaload, 1) := dk_ (by decide +kernel)
theorem dX0_compare_21 : decode cX0_compare 21 = .ok (.aload_n 2, 1) := dk_ (by decide +kernel)
theorem dX0_compare_22 : decode cX0_compare 22 = .ok (.getfield 25, 3) := dk_ (by decide +kernel)
theorem dX0_compare_25 : decode cX0_compare 25 = .ok (.iload_n 3, 1) := dk_ (by decide +kernel)
theorem dX0_compare_26 : decode cX0_compare 26 = .ok (.aaload, 1) := dk_ (by decide +kernel)
theorem dX0_compare_27 : decode cX0_compare 27 = .ok (.invokevirtual 31, 3) := dk_ (by decide +kernel)
theorem dX0_compare_30 : decode cX0_compare 30 = .ok (.iinc 3 1, 3) := dk_ (by decide +kernel)
theorem dX0_compare_33 : decode cX0_compare 33 = .ok (.goto (-26), 3) := dk_ (by decide +kernel)
theorem dX0_compare_36 : decode cX0_compare 36 = .ok (.return_, 1) := dk_ (by decide +kernel)
theorem dX0_compareGraphs_0 : decode cX0_compareGraphs 0 = .ok (.iconst 0, 1) := dk_ (by decide +kernel)
theorem dX0_compareGraphs_1 : decode cX0_compareGraphs 1 = .ok (.istore 4, 2) := dk_ (by decide +kernel)
theorem dX0_compareGraphs_3 : decode cX0_compareGraphs 3 = .ok (.iconst 0, 1) := dk_ (by decide +kernel)
theorem dX0_compareGraphs_4 : decode cX0_compareGraphs 4 = .ok (.istore 5, 2) := dk_ (by decide +kernel)
theorem dX0_compareGraphs_6 : decode cX0_compareGraphs 6 = .ok (.iload 4, 2) := dk_ (by decide +kernel)
theorem dX0_compareGraphs_8 : decode cX0_compareGraphs 8 = .ok (.aload_n 2, 1) := dk_ (by decide +kernel)
theorem dX0_compareGraphs_9 : decode cX0_compareGraphs 9 = .ok (.getfield 35, 3) := dk_ (by decide +kernel)
theorem dX0_compareGraphs_12 : decode cX0_compareGraphs 12 = .ok (.if_icmp .lt 12, 3) := dk_ (by decide +kernel)
theorem dX0_compareGraphs_15 : decode cX0_compareGraphs 15 = .ok (.iload 5, 2) := dk_ (by decide +kernel)
theorem dX0_compareGraphs_17 : decode cX0_compareGraphs 17 = .ok (.aload_n 3, 1) := dk_ (by decide +kernel)
theorem dX0_compareGraphs_18 : decode cX0_compareGraphs 18 = .ok (.getfield 35, 3) := dk_ (by decide +kernel)
theorem dX0_compareGraphs_21 : decode cX0_compareGraphs 21 = .ok (.if_icmp .ge 111, 3) := dk_ (by decide +kernel)
theorem dX0_compareGraphs_24 : decode cX0_compareGraphs 24 = .ok (.iload 5, 2) := dk_ (by decide +kernel)
theorem dX0_compareGraphs_26 : decode cX0_compareGraphs 26 = .ok (.aload_n 3, 1) := dk_ (by decide +kernel)
theorem dX0_compareGraphs_27 : decode cX0_compareGraphs 27 = .ok (.getfield 35, 3) := dk_ (by decide +kernel)
theorem dX0_compareGraphs_30 : decode cX0_compareGraphs 30 = .ok (.if_icmp .ge 29, 3) := dk_ (by decide +kernel)
theorem dX0_compareGraphs_33 : decode cX0_compareGraphs 33 = .ok (.iload 4, 2) := dk_ (by decide +kernel)
theorem dX0_compareGraphs_35 : decode cX0_compareGraphs 35 = .ok (.aload_n 2, 1) := dk_ (by decide +kernel)
theorem dX0_compareGraphs_36 : decode cX0_compareGraphs 36 = .ok (.getfield 35, 3) := dk_ (by decide +kernel)
theorem dX0_compareGraphs_39 : decode cX0_compareGraphs 39 = .ok (.if_icmp .ge 39, 3) := dk_ (by decide +kernel)
theorem dX0_compareGraphs_42 : decode cX0_compareGraphs 42 = .ok (.aload_n 2, 1) := dk_ (by decide +kernel)
theorem dX0_compareGraphs_43 : decode cX0_compareGraphs 43 = .ok (.getfield 40, 3) := dk_ (by decide +kernel)
theorem dX0_compareGraphs_46 : decode cX0_compareGraphs 46 = .ok (.iload 4, 2) := dk_ (by decide +kernel)
theorem dX0_compareGraphs_48 : decode cX0_compareGraphs 48 = .ok (.iaload, 1) := dk_ (by decide +kernel)
theorem dX0_compareGraphs_49 : decode cX0_compareGraphs 49 = .ok (.aload_n 3, 1) := dk_ (by decide +kernel)
theorem dX0_compareGraphs_50 : decode cX0_compareGraphs 50 = .ok (.getfield 40, 3) := dk_ (by decide +kernel)
theorem dX0_compareGraphs_53 : decode cX0_compareGraphs 53 = .ok (.iload 5, 2) := dk_ (by decide +kernel)
theorem dX0_compareGraphs_55 : decode cX0_compareGraphs 55 = .ok (.iaload, 1) := dk_ (by decide +kernel)
theorem dX0_compareGraphs_56 : decode cX0_compareGraphs 56 = .ok (.if_icmp .ge 22, 3) := dk_ (by decide +kernel)
theorem dX0_compareGraphs_59 : decode cX0_compareGraphs 59 = .ok (.aload_n 0, 1) := dk_ (by decide +kernel)
theorem dX0_compareGraphs_60 : decode cX0_compareGraphs 60 = .ok (.iload_n 1, 1) := dk_ (by decide +kernel)
theorem dX0_compareGraphs_61 : decode cX0_compareGraphs 61 = .ok (.aload_n 2, 1) := dk_ (by decide +kernel)
theorem dX0_compareGraphs_62 : decode cX0_compareGraphs 62 = .ok (.getfield 40, 3) := dk_ (by decide +kernel)
theorem dX0_compareGraphs_65 : decode cX0_compareGraphs 65 = .ok (.iload 4, 2) := dk_ (by decide +kernel)
theorem dX0_compareGraphs_67 : decode cX0_compareGraphs 67 = .ok (.iaload, 1) := dk_ (by decide +kernel)
theorem dX0_compareGraphs_68 : decode cX0_compareGraphs 68 = .ok (.iconst 0, 1) := dk_ (by decide +kernel)
theorem dX0_compareGraphs_69 : decode cX0_compareGraphs 69 = .ok (.invokevirtual 43, 3) := dk_ (by decide +kernel)
theorem dX0_compareGraphs_72 : decode cX0_compareGraphs 72 = .ok (.iinc 4 1, 3) := dk_ (by decide +kernel)
theorem dX0_compareGraphs_75 : decode cX0_compareGraphs 75 = .ok (.goto (-69), 3) := dk_ (by decide +kernel)
theorem dX0_compareGraphs_78 : decode cX0_compareGraphs 78 = .ok (.iload 4, 2) := dk_ (by decide +kernel)
theorem dX0_compareGraphs_80 : decode cX0_compareGraphs 80 = .ok (.aload_n 2, 1) := dk_ (by decide +kernel)
theorem dX0_compareGraphs_81 : decode cX0_compareGraphs 81 = .ok (.getfield 35, 3) := dk_ (by decide +kernel)
theorem dX0_compareGraphs_84 : decode cX0_compareGraphs 84 = .ok (.if_icmp .ge 20, 3) := dk_ (by decide +kernel)
theorem dX0_compareGraphs_87 : decode cX0_compareGraphs 87 = .ok (.aload_n 3, 1) := dk_ (by decide +kernel)
theorem dX0_compareGraphs_88 : decode cX0_compareGraphs 88 = .ok (.getfield 40, 3) := dk_ (by decide +kernel)
theorem dX0_compareGraphs_91 : decode cX0_compareGraphs 91 = .ok (.iload 5, 2) := dk_ (by decide +kernel)
theorem dX0_compareGraphs_93 : decode cX0_compareGraphs 93 = .ok (.iaload, 1) := dk_ (by decide +kernel)
theorem dX0_compareGraphs_94 : decode cX0_compareGraphs 94 = .ok (.aload_n 2, 1) := dk_ (by decide +kernel)
theorem dX0_compareGraphs_95 : decode cX0_compareGraphs 95 = .ok (.getfield 40, 3) := dk_ (by decide +kernel)
theorem dX0_compareGraphs_98 : decode cX0_compareGraphs 98 = .ok (.iload 4, 2) := dk_ (by decide +kernel)
theorem dX0_compareGraphs_100 : decode cX0_compareGraphs 100 = .ok (.iaload, 1) := dk_ (by decide +kernel)
theorem dX0_compareGraphs_101 : decode cX0_compareGraphs 101 = .ok (.if_icmp .ge 22, 3) := dk_ (by decide +kernel)
theorem dX0_compareGraphs_104 : decode cX0_compareGraphs 104 = .ok (.aload_n 0, 1) := dk_ (by decide +kernel)
theorem dX0_compareGraphs_105 : decode cX0_compareGraphs 105 = .ok (.iload_n 1, 1) := dk_ (by decide +kernel)
theorem dX0_compareGraphs_106 : decode cX0_compareGraphs 106 = .ok (.aload_n 3, 1) := dk_ (by decide +kernel)
theorem dX0_compareGraphs_107 : decode cX0_compareGraphs 107 = .ok (.getfield 40, 3) := dk_ (by decide +kernel)
theorem dX0_compareGraphs_110 : decode cX0_compareGraphs 110 = .ok (.iload 5, 2) := dk_ (by decide +kernel)
theorem dX0_compareGraphs_112 : decode cX0_compareGraphs 112 = .ok (.iaload, 1) := dk_ (by decide +kernel)
theorem dX0_compareGraphs_113 : decode cX0_compareGraphs 113 = .ok (.iconst 1, 1) := dk_ (by decide +kernel)
theorem dX0_compareGraphs_114 : decode cX0_compareGraphs 114 = .ok (.invokevirtual 43, 3) := dk_ (by decide +kernel)
theorem dX0_compareGraphs_117 : decode cX0_compareGraphs 117 = .ok (.iinc 5 1, 3) := dk_ (by decide +kernel)
theorem dX0_compareGraphs_120 : decode cX0_compareGraphs 120 = .ok (.goto (-114), 3) := dk_ (by decide +kernel)
theorem dX0_compareGraphs_123 : decode cX0_compareGraphs 123 = .ok (.iinc 4 1, 3) := dk_ (by decide +kernel)
theorem dX0_compareGraphs_126 : decode cX0_compareGraphs 126 = .ok (.iinc 5 1, 3) := dk_ (by decide +kernel)
theorem dX0_compareGraphs_129 : decode cX0_compareGraphs 129 = .ok (.goto (-123), 3) := dk_ (by decide +kernel)
theorem dX0_compareGraphs_132 : decode cX0_compareGraphs 132 = .ok (.return_, 1) := dk_ (by decide +kernel)
theorem dX0_note_0 : decode cX0_note 0 = .ok (.aload_n 0, 1) := dk_ (by decide +kernel)
theorem dX0_note_1 : decode cX0_note 1 = .ok (.getfield 21, 3) := dk_ (by decide +kernel)
theorem dX0_note_4 : decode cX0_note 4 = .ok (.sipush 240, 3) := dk_ (by decide +kernel)
theorem dX0_note_7 : decode cX0_note 7 = .ok (.if_icmp .ge 43, 3) := dk_ (by decide +kernel)
theorem dX0_note_10 : decode cX0_note 10 = .ok (.aload_n 0, 1) := dk_ (by decide +kernel)
theorem dX0_note_11 : decode cX0_note 11 = .ok (.getfield 9, 3) := dk_ (by decide +kernel)
theorem dX0_note_14 : decode cX0_note 14 = .ok (.aload_n 0, 1) := dk_ (by decide +kernel)
theorem dX0_note_15 : decode cX0_note 15 = .ok (.getfield 21, 3) := dk_ (by decide +kernel)
theorem dX0_note_18 : decode cX0_note 18 = .ok (.iload_n 1, 1) := dk_ (by decide +kernel)
theorem dX0_note_19 : decode cX0_note 19 = .ok (.iastore, 1) := dk_ (by decide +kernel)
theorem dX0_note_20 : decode cX0_note 20 = .ok (.aload_n 0, 1) := dk_ (by decide +kernel)
theorem dX0_note_21 : decode cX0_note 21 = .ok (.getfield 15, 3) := dk_ (by decide +kernel)
theorem dX0_note_24 : decode cX0_note 24 = .ok (.aload_n 0, 1) := dk_ (by decide +kernel)
theorem dX0_note_25 : decode cX0_note 25 = .ok (.getfield 21, 3) := dk_ (by decide +kernel)
theorem dX0_note_28 : decode cX0_note 28 = .ok (.iload_n 2, 1) := dk_ (by decide +kernel)
theorem dX0_note_29 : decode cX0_note 29 = .ok (.iastore, 1) := dk_ (by decide +kernel)
theorem dX0_note_30 : decode cX0_note 30 = .ok (.aload_n 0, 1) := dk_ (by decide +kernel)
theorem dX0_note_31 : decode cX0_note 31 = .ok (.getfield 18, 3) := dk_ (by decide +kernel)
theorem dX0_note_34 : decode cX0_note 34 = .ok (.aload_n 0, 1) := dk_ (by decide +kernel)
theorem dX0_note_35 : decode cX0_note 35 = .ok (.getfield 21, 3) := dk_ (by decide +kernel)
theorem dX0_note_38 : decode cX0_note 38 = .ok (.iload_n 3, 1) := dk_ (by decide +kernel)
theorem dX0_note_39 : decode cX0_note 39 = .ok (.iastore, 1) := dk_ (by decide +kernel)
theorem dX0_note_40 : decode cX0_note 40 = .ok (.aload_n 0, 1) := dk_ (by decide +kernel)
theorem dX0_note_41 : decode cX0_note 41 = .ok (.dup, 1) := dk_ (by decide +kernel)
theorem dX0_note_42 : decode cX0_note 42 = .ok (.getfield 21, 3) := dk_ (by decide +kernel)
theorem dX0_note_45 : decode cX0_note 45 = .ok (.iconst 1, 1) := dk_ (by decide +kernel)
theorem dX0_note_46 : decode cX0_note 46 = .ok (.iadd, 1) := dk_ (by decide +kernel)
theorem dX0_note_47 : decode cX0_note 47 = .ok (.putfield 21, 3) := dk_ (by decide +kernel)
theorem dX0_note_50 : decode cX0_note 50 = .ok (.return_, 1) := dk_ (by decide +kernel)
theorem dX1_init_0 : decode cX1_init 0 = .ok (.aload_n 0, 1) := dk_ (by decide +kernel)
theorem dX1_init_1 : decode cX1_init 1 = .ok (.invokespecial 3, 3) := dk_ (by decide +kernel)
theorem dX1_init_4 : decode cX1_init 4 = .ok (.aload_n 0, 1) := dk_ (by decide +kernel)
theorem dX1_init_5 : decode cX1_init 5 = .ok (.new 9, 3) := dk_ (by decide +kernel)
theorem dX1_init_8 : decode cX1_init 8 = .ok (.dup, 1) := dk_ (by decide +kernel)
theorem dX1_init_9 : decode cX1_init 9 = .ok (.bipush 10, 2) := dk_ (by decide +kernel)
theorem dX1_init_11 : decode cX1_init 11 = .ok (.invokespecial 11, 3) := dk_ (by decide +kernel)
theorem dX1_init_14 : decode cX1_init 14 = .ok (.putfield 14, 3) := dk_ (by decide +kernel)
theorem dX1_init_17 : decode cX1_init 17 = .ok (.aload_n 0, 1) := dk_ (by decide +kernel)
theorem dX1_init_18 : decode cX1_init 18 = .ok (.iconst 0, 1) := dk_ (by decide +kernel)
theorem dX1_init_19 : decode cX1_init 19 = .ok (.putfield 20, 3) := dk_ (by decide +kernel)
theorem dX1_init_22 : decode cX1_init 22 = .ok (.return_, 1) := dk_ (by decide +kernel)
theorem dX2_init_0 : decode cX2_init 0 = .ok (.aload_n 0, 1) := dk_ (by decide +kernel)
theorem dX2_init_1 : decode cX2_init 1 = .ok (.invokespecial 3, 3) := dk_ (by decide +kernel)
theorem dX2_init_4 : decode cX2_init 4 = .ok (.aload_n 0, 1) := dk_ (by decide +kernel)
theorem dX2_init_5 : decode cX2_init 5 = .ok (.bipush 120, 2) := dk_ (by decide +kernel)
theorem dX2_init_7 : decode cX2_init 7 = .ok (.newarray .int, 2) := dk_ (by decide +kernel)
theorem dX2_init_9 : decode cX2_init 9 = .ok (.putfield 9, 3) := dk_ (by decide +kernel)
theorem dX2_init_12 : decode cX2_init 12 = .ok (.aload_n 0, 1) := dk_ (by decide +kernel)
theorem dX2_init_13 : decode cX2_init 13 = .ok (.iconst 0, 1) := dk_ (by decide +kernel)
theorem dX2_init_14 : decode cX2_init 14 = .ok (.putfield 15, 3) := dk_ (by decide +kernel)
theorem dX2_init_17 : decode cX2_init 17 = .ok (.aload_n 0, 1) := dk_ (by decide +kernel)
theorem dX2_init_18 : decode cX2_init 18 = .ok (.iconst 0, 1) := dk_ (by decide +kernel)
theorem dX2_init_19 : decode cX2_init 19 = .ok (.putfield 19, 3) := dk_ (by decide +kernel)
theorem dX2_init_22 : decode cX2_init 22 = .ok (.return_, 1) := dk_ (by decide +kernel)
theorem dX2_placeOf_0 : decode cX2_placeOf 0 = .ok (.iconst 0, 1) := dk_ (by decide +kernel)
theorem dX2_placeOf_1 : decode cX2_placeOf 1 = .ok (.istore_n 2, 1) := dk_ (by decide +kernel)
theorem dX2_placeOf_2 : decode cX2_placeOf 2 = .ok (.aload_n 0, 1) := dk_ (by decide +kernel)
theorem dX2_placeOf_3 : decode cX2_placeOf 3 = .ok (.getfield 15, 3) := dk_ (by decide +kernel)
theorem dX2_placeOf_6 : decode cX2_placeOf 6 = .ok (.istore_n 3, 1) := dk_ (by decide +kernel)
theorem dX2_placeOf_7 : decode cX2_placeOf 7 = .ok (.iload_n 2, 1) := dk_ (by decide +kernel)
theorem dX2_placeOf_8 : decode cX2_placeOf 8 = .ok (.iload_n 3, 1) := dk_ (by decide +kernel)
theorem dX2_placeOf_9 : decode cX2_placeOf 9 = .ok (.if_icmp .ge 35, 3) := dk_ (by decide +kernel)
theorem dX2_placeOf_12 : decode cX2_placeOf 12 = .ok (.iload_n 2, 1) := dk_ (by decide +kernel)
theorem dX2_placeOf_13 : decode cX2_placeOf 13 = .ok (.iload_n 3, 1) := dk_ (by decide +kernel)
theorem dX2_placeOf_14 : decode cX2_placeOf 14 = .ok (.iadd, 1) := dk_ (by decide +kernel)
theorem dX2_placeOf_15 : decode cX2_placeOf 15 = .ok (.iconst 1, 1) := dk_ (by decide +kernel)
theorem dX2_placeOf_16 : decode cX2_placeOf 16 = .ok (.iushr, 1) := dk_ (by decide +kernel)
theorem dX2_placeOf_17 : decode cX2_placeOf 17 = .ok (.istore 4, 2) := dk_ (by decide +kernel)
theorem dX2_placeOf_19 : decode cX2_placeOf 19 = .ok (.aload_n 0, 1) := dk_ (by decide +kernel)
theorem dX2_placeOf_20 : decode cX2_placeOf 20 = .ok (.getfield 9, 3) := dk_ (by decide +kernel)
theorem dX2_placeOf_23 : decode cX2_placeOf 23 = .ok (.iload 4, 2) := dk_ (by decide +kernel)
theorem dX2_placeOf_25 : decode cX2_placeOf 25 = .ok (.iaload, 1) := dk_ (by decide +kernel)
theorem dX2_placeOf_26 : decode cX2_placeOf 26 = .ok (.iload_n 1, 1) := dk_ (by decide +kernel)
theorem dX2_placeOf_27 : decode cX2_placeOf 27 = .ok (.if_icmp .ge 11, 3) := dk_ (by decide +kernel)
theorem dX2_placeOf_30 : decode cX2_placeOf 30 = .ok (.iload 4, 2) := dk_ (by decide +kernel)
theorem dX2_placeOf_32 : decode cX2_placeOf 32 = .ok (.iconst 1, 1) := dk_ (by decide +kernel)
theorem dX2_placeOf_33 : decode cX2_placeOf 33 = .ok (.iadd, 1) := dk_ (by decide +kernel)
theorem dX2_placeOf_34 : decode cX2_placeOf 34 = .ok (.istore_n 2, 1) := dk_ (by decide +kernel)
theorem dX2_placeOf_35 : decode cX2_placeOf 35 = .ok (.goto 6, 3) := dk_ (by decide +kernel)
theorem dX2_placeOf_38 : decode cX2_placeOf 38 = .ok (.iload 4, 2) := dk_ (by decide +kernel)
theorem dX2_placeOf_40 : decode cX2_placeOf 40 = .ok (.istore_n 3, 1) := dk_ (by decide +kernel)
theorem dX2_placeOf_41 : decode cX2_placeOf 41 = .ok (.goto (-34), 3) := dk_ (by decide +kernel)
theorem dX2_placeOf_44 : decode cX2_placeOf 44 = .ok (.iload_n 2, 1) := dk_ (by decide +kernel)
theorem dX2_placeOf_45 : decode cX2_placeOf 45 = .ok (.ireturn, 1) := dk_ (by decide +kernel)
theorem dX2_holds_0 : decode cX2_holds 0 = .ok (.aload_n 0, 1) := dk_ (by decide +kernel)
theorem dX2_holds_1 : decode cX2_holds 1 = .ok (.iload_n 1, 1) := dk_ (by decide +kernel)
theorem dX2_holds_2 : decode cX2_holds 2 = .ok (.invokevirtual 23, 3) := dk_ (by decide +kernel)
theorem dX2_holds_5 : decode cX2_holds 5 = .ok (.istore_n 2, 1) := dk_ (by decide +kernel)
theorem dX2_holds_6 : decode cX2_holds 6 = .ok (.iload_n 2, 1) := dk_ (by decide +kernel)
theorem dX2_holds_7 : decode cX2_holds 7 = .ok (.aload_n 0, 1) := dk_ (by decide +kernel)
theorem dX2_holds_8 : decode cX2_holds 8 = .ok (.getfield 15, 3) := dk_ (by decide +kernel)
theorem dX2_holds_11 : decode cX2_holds 11 = .ok (.if_icmp .ge 17, 3) := dk_ (by decide +kernel)
theorem dX2_holds_14 : decode cX2_holds 14 = .ok (.aload_n 0, 1) := dk_ (by decide +kernel)
theorem dX2_holds_15 : decode cX2_holds 15 = .ok (.getfield 9, 3) := dk_ (by decide +kernel)
theorem dX2_holds_18 : decode cX2_holds 18 = .ok (.iload_n 2, 1) := dk_ (by decide +kernel)
theorem dX2_holds_19 : decode cX2_holds 19 = .ok (.iaload, 1) := dk_ (by decide +kernel)
theorem dX2_holds_20 : decode cX2_holds 20 = .ok (.iload_n 1, 1) := dk_ (by decide +kernel)
theorem dX2_holds_21 : decode cX2_holds 21 = .ok (.if_icmp .ne 7, 3) := dk_ (by decide +kernel)
theorem dX2_holds_24 : decode cX2_holds 24 = .ok (.iconst 1, 1) := dk_ (by decide +kernel)
theorem dX2_holds_25 : decode cX2_holds 25 = .ok (.goto 4, 3) := dk_ (by decide +kernel)
theorem dX2_holds_28 : decode cX2_holds 28 = .ok (.iconst 0, 1) := dk_ (by decide +kernel)
theorem dX2_holds_29 : decode cX2_holds 29 = .ok (.ireturn, 1) := dk_ (by decide +kernel)
theorem dX2_insert_0 : decode cX2_insert 0 = .ok (.aload_n 0, 1) := dk_ (by decide +kernel)
theorem dX2_insert_1 : decode cX2_insert 1 = .ok (.iload_n 1, 1) := dk_ (by decide +kernel)
theorem dX2_insert_2 : decode cX2_insert 2 = .ok (.invokevirtual 23, 3) := dk_ (by decide +kernel)
theorem dX2_insert_5 : decode cX2_insert 5 = .ok (.istore_n 2, 1) := dk_ (by decide +kernel)
theorem dX2_insert_6 : decode cX2_insert 6 = .ok (.aload_n 0, 1) := dk_ (by decide +kernel)
theorem dX2_insert_7 : decode cX2_insert 7 = .ok (.getfield 15, 3) := dk_ (by decide +kernel)
theorem dX2_insert_10 : decode cX2_insert 10 = .ok (.bipush 120, 2) := dk_ (by decide +kernel)
theorem dX2_insert_12 : decode cX2_insert 12 = .ok (.if_icmp .ge 41, 3) := dk_ (by decide +kernel)
theorem dX2_insert_15 : decode cX2_insert 15 = .ok (.aload_n 0, 1) := dk_ (by decide +kernel)
theorem dX2_insert_16 : decode cX2_insert 16 = .ok (.getfield 9, 3) := dk_ (by decide +kernel)
theorem dX2_insert_19 : decode cX2_insert 19 = .ok (.iload_n 2, 1) := dk_ (by decide +kernel)
theorem dX2_insert_20 : decode cX2_insert 20 = .ok (.aload_n 0, 1) := dk_ (by decide +kernel)
theorem dX2_insert_21 : decode cX2_insert 21 = .ok (.getfield 9, 3) := dk_ (by decide +kernel)
theorem dX2_insert_24 : decode cX2_insert 24 = .ok (.iload_n 2, 1) := dk_ (by decide +kernel)
theorem dX2_insert_25 : decode cX2_insert 25 = .ok (.iconst 1, 1) := dk_ (by decide +kernel)
theorem dX2_insert_26 : decode cX2_insert 26 = .ok (.iadd, 1) := dk_ (by decide +kernel)
theorem dX2_insert_27 : decode cX2_insert 27 = .ok (.aload_n 0, 1) := dk_ (by decide +kernel)
theorem dX2_insert_28 : decode cX2_insert 28 = .ok (.getfield 15, 3) := dk_ (by decide +kernel)
theorem dX2_insert_31 : decode cX2_insert 31 = .ok (.iload_n 2, 1) := dk_ (by decide +kernel)
theorem dX2_insert_32 : decode cX2_insert 32 = .ok (.isub, 1) := dk_ (by decide +kernel)
theorem dX2_insert_33 : decode cX2_insert 33 = .ok (.invokestatic 27, 3) := dk_ (by decide +kernel)
theorem dX2_insert_36 : decode cX2_insert 36 = .ok (.aload_n 0, 1) := dk_ (by decide +kernel)
theorem dX2_insert_37 : decode cX2_insert 37 = .ok (.getfield 9, 3) := dk_ (by decide +kernel)
theorem dX2_insert_40 : decode cX2_insert 40 = .ok (.iload_n 2, 1) := dk_ (by decide +kernel)
theorem dX2_insert_41 : decode cX2_insert 41 = .ok (.iload_n 1, 1) := dk_ (by decide +kernel)
theorem dX2_insert_42 : decode cX2_insert 42 = .ok (.iastore, 1) := dk_ (by decide +kernel)
theorem dX2_insert_43 : decode cX2_insert 43 = .ok (.aload_n 0, 1) := dk_ (by decide +kernel)
theorem dX2_insert_44 : decode cX2_insert 44 = .ok (.dup, 1) := dk_ (by decide +kernel)
theorem dX2_insert_45 : decode cX2_insert 45 = .ok (.getfield 15, 3) := dk_ (by decide +kernel)
theorem dX2_insert_48 : decode cX2_insert 48 = .ok (.iconst 1, 1) := dk_ (by decide +kernel)
theorem dX2_insert_49 : decode cX2_insert 49 = .ok (.iadd, 1) := dk_ (by decide +kernel)
theorem dX2_insert_50 : decode cX2_insert 50 = .ok (.putfield 15, 3) := dk_ (by decide +kernel)
theorem dX2_insert_53 : decode cX2_insert 53 = .ok (.return_, 1) := dk_ (by decide +kernel)
theorem dX2_remove_0 : decode cX2_remove 0 = .ok (.aload_n 0, 1) := dk_ (by decide +kernel)
theorem dX2_remove_1 : decode cX2_remove 1 = .ok (.iload_n 1, 1) := dk_ (by decide +kernel)
theorem dX2_remove_2 : decode cX2_remove 2 = .ok (.invokevirtual 23, 3) := dk_ (by decide +kernel)
theorem dX2_remove_5 : decode cX2_remove 5 = .ok (.istore_n 2, 1) := dk_ (by decide +kernel)
theorem dX2_remove_6 : decode cX2_remove 6 = .ok (.iload_n 2, 1) := dk_ (by decide +kernel)
theorem dX2_remove_7 : decode cX2_remove 7 = .ok (.aload_n 0, 1) := dk_ (by decide +kernel)
theorem dX2_remove_8 : decode cX2_remove 8 = .ok (.getfield 15, 3) := dk_ (by decide +kernel)
theorem dX2_remove_11 : decode cX2_remove 11 = .ok (.if_icmp .ge 46, 3) := dk_ (by decide +kernel)
theorem dX2_remove_14 : decode cX2_remove 14 = .ok (.aload_n 0, 1) := dk_ (by decide +kernel)
theorem dX2_remove_15 : decode cX2_remove 15 = .ok (.getfield 9, 3) := dk_ (by decide +kernel)
theorem dX2_remove_18 : decode cX2_remove 18 = .ok (.iload_n 2, 1) := dk_ (by decide +kernel)
theorem dX2_remove_19 : decode cX2_remove 19 = .ok (.iaload, 1) := dk_ (by decide +kernel)
theorem dX2_remove_20 : decode cX2_remove 20 = .ok (.iload_n 1, 1) := dk_ (by decide +kernel)
theorem dX2_remove_21 : decode cX2_remove 21 = .ok (.if_icmp .ne 36, 3) := dk_ (by decide +kernel)
theorem dX2_remove_24 : decode cX2_remove 24 = .ok (.aload_n 0, 1) := dk_ (by decide +kernel)
theorem dX2_remove_25 : decode cX2_remove 25 = .ok (.getfield 9, 3) := dk_ (by decide +kernel)
theorem dX2_remove_28 : decode cX2_remove 28 = .ok (.iload_n 2, 1) := dk_ (by decide +kernel)
theorem dX2_remove_29 : decode cX2_remove 29 = .ok (.iconst 1, 1) := dk_ (by decide +kernel)
theorem dX2_remove_30 : decode cX2_remove 30 = .ok (.iadd, 1) := dk_ (by decide +kernel)
theorem dX2_remove_31 : decode cX2_remove 31 = .ok (.aload_n 0, 1) := dk_ (by decide +kernel)
theorem dX2_remove_32 : decode cX2_remove 32 = .ok (.getfield 9, 3) := dk_ (by decide +kernel)
theorem dX2_remove_35 : decode cX2_remove 35 = .ok (.iload_n 2, 1) := dk_ (by decide +kernel)
theorem dX2_remove_36 : decode cX2_remove 36 = .ok (.aload_n 0, 1) := dk_ (by decide +kernel)
theorem dX2_remove_37 : decode cX2_remove 37 = .ok (.getfield 15, 3) := dk_ (by decide +kernel)
theorem dX2_remove_40 : decode cX2_remove 40 = .ok (.iload_n 2, 1) := dk_ (by decide +kernel)
theorem dX2_remove_41 : decode cX2_remove 41 = .ok (.isub, 1) := dk_ (by decide +kernel)
theorem dX2_remove_42 : decode cX2_remove 42 = .ok (.iconst 1, 1) := dk_ (by decide +kernel)
theorem dX2_remove_43 : decode cX2_remove 43 = .ok (.isub, 1) := dk_ (by decide +kernel)
theorem dX2_remove_44 : decode cX2_remove 44 = .ok (.invokestatic 27, 3) := dk_ (by decide +kernel)
theorem dX2_remove_47 : decode cX2_remove 47 = .ok (.aload_n 0, 1) := dk_ (by decide +kernel)
theorem dX2_remove_48 : decode cX2_remove 48 = .ok (.dup, 1) := dk_ (by decide +kernel)
theorem dX2_remove_49 : decode cX2_remove 49 = .ok (.getfield 15, 3) := dk_ (by decide +kernel)
theorem dX2_remove_52 : decode cX2_remove 52 = .ok (.iconst 1, 1) := dk_ (by decide +kernel)
theorem dX2_remove_53 : decode cX2_remove 53 = .ok (.isub, 1) := dk_ (by decide +kernel)
theorem dX2_remove_54 : decode cX2_remove 54 = .ok (.putfield 15, 3) := dk_ (by decide +kernel)
theorem dX2_remove_57 : decode cX2_remove 57 = .ok (.return_, 1) := dk_ (by decide +kernel)
theorem dX2_become_0 : decode cX2_become 0 = .ok (.aload_n 1, 1) := dk_ (by decide +kernel)
theorem dX2_become_1 : decode cX2_become 1 = .ok (.getfield 9, 3) := dk_ (by decide +kernel)
theorem dX2_become_4 : decode cX2_become 4 = .ok (.iconst 0, 1) := dk_ (by decide +kernel)
theorem dX2_become_5 : decode cX2_become 5 = .ok (.aload_n 0, 1) := dk_ (by decide +kernel)
theorem dX2_become_6 : decode cX2_become 6 = .ok (.getfield 9, 3) := dk_ (by decide +kernel)
theorem dX2_become_9 : decode cX2_become 9 = .ok (.iconst 0, 1) := dk_ (by decide +kernel)
theorem dX2_become_10 : decode cX2_become 10 = .ok (.aload_n 1, 1) := dk_ (by decide +kernel)
theorem dX2_become_11 : decode cX2_become 11 = .ok (.getfield 15, 3) := dk_ (by decide +kernel)
theorem dX2_become_14 : decode cX2_become 14 = .ok (.invokestatic 27, 3) := dk_ (by decide +kernel)
theorem dX2_become_17 : decode cX2_become 17 = .ok (.aload_n 0, 1) := dk_ (by decide +kernel)
theorem dX2_become_18 : decode cX2_become 18 = .ok (.aload_n 1, 1) := dk_ (by decide +kernel)
theorem dX2_become_19 : decode cX2_become 19 = .ok (.getfield 15, 3) := dk_ (by decide +kernel)
theorem dX2_become_22 : decode cX2_become 22 = .ok (.putfield 15, 3) := dk_ (by decide +kernel)
theorem dX2_become_25 : decode cX2_become 25 = .ok (.aload_n 0, 1) := dk_ (by decide +kernel)
theorem dX2_become_26 : decode cX2_become 26 = .ok (.aload_n 1, 1) := dk_ (by decide +kernel)
theorem dX2_become_27 : decode cX2_become 27 = .ok (.getfield 19, 3) := dk_ (by decide +kernel)
theorem dX2_become_30 : decode cX2_become 30 = .ok (.putfield 19, 3) := dk_ (by decide +kernel)
theorem dX2_become_33 : decode cX2_become 33 = .ok (.return_, 1) := dk_ (by decide +kernel)
theorem dX3_init_0 : decode cX3_init 0 = .ok (.aload_n 0, 1) := dk_ (by decide +kernel)
theorem dX3_init_1 : decode cX3_init 1 = .ok (.invokespecial 1, 3) := dk_ (by decide +kernel)
theorem dX3_init_4 : decode cX3_init 4 = .ok (.aload_n 0, 1) := dk_ (by decide +kernel)
theorem dX3_init_5 : decode cX3_init 5 = .ok (.iconst 0, 1) := dk_ (by decide +kernel)
theorem dX3_init_6 : decode cX3_init 6 = .ok (.putfield 7, 3) := dk_ (by decide +kernel)
theorem dX3_init_9 : decode cX3_init 9 = .ok (.aload_n 0, 1) := dk_ (by decide +kernel)
theorem dX3_init_10 : decode cX3_init 10 = .ok (.iload_n 1, 1) := dk_ (by decide +kernel)
theorem dX3_init_11 : decode cX3_init 11 = .ok (.putfield 13, 3) := dk_ (by decide +kernel)
theorem dX3_init_14 : decode cX3_init 14 = .ok (.aload_n 0, 1) := dk_ (by decide +kernel)
theorem dX3_init_15 : decode cX3_init 15 = .ok (.iconst 3, 1) := dk_ (by decide +kernel)
theorem dX3_init_16 : decode cX3_init 16 = .ok (.iload_n 1, 1) := dk_ (by decide +kernel)
theorem dX3_init_17 : decode cX3_init 17 = .ok (.imul, 1) := dk_ (by decide +kernel)
theorem dX3_init_18 : decode cX3_init 18 = .ok (.newarray .int, 2) := dk_ (by decide +kernel)
theorem dX3_init_20 : decode cX3_init 20 = .ok (.putfield 16, 3) := dk_ (by decide +kernel)
theorem dX3_init_23 : decode cX3_init 23 = .ok (.return_, 1) := dk_ (by decide +kernel)
theorem dX3_isFull_0 : decode cX3_isFull 0 = .ok (.aload_n 0, 1) := dk_ (by decide +kernel)
theorem dX3_isFull_1 : decode cX3_isFull 1 = .ok (.getfield 7, 3) := dk_ (by decide +kernel)
theorem dX3_isFull_4 : decode cX3_isFull 4 = .ok (.aload_n 0, 1) := dk_ (by decide +kernel)
theorem dX3_isFull_5 : decode cX3_isFull 5 = .ok (.getfield 13, 3) := dk_ (by decide +kernel)
theorem dX3_isFull_8 : decode cX3_isFull 8 = .ok (.if_icmp .lt 7, 3) := dk_ (by decide +kernel)
theorem dX3_isFull_11 : decode cX3_isFull 11 = .ok (.iconst 1, 1) := dk_ (by decide +kernel)
theorem dX3_isFull_12 : decode cX3_isFull 12 = .ok (.goto 4, 3) := dk_ (by decide +kernel)
theorem dX3_isFull_15 : decode cX3_isFull 15 = .ok (.iconst 0, 1) := dk_ (by decide +kernel)
theorem dX3_isFull_16 : decode cX3_isFull 16 = .ok (.ireturn, 1) := dk_ (by decide +kernel)
theorem dX3_append_0 : decode cX3_append 0 = .ok (.aload_n 0, 1) := dk_ (by decide +kernel)
theorem dX3_append_1 : decode cX3_append 1 = .ok (.invokevirtual 20, 3) := dk_ (by decide +kernel)
theorem dX3_append_4 : decode cX3_append 4 = .ok (.ifCond .ne 53, 3) := dk_ (by decide +kernel)
theorem dX3_append_7 : decode cX3_append 7 = .ok (.aload_n 0, 1) := dk_ (by decide +kernel)
theorem dX3_append_8 : decode cX3_append 8 = .ok (.getfield 16, 3) := dk_ (by decide +kernel)
theorem dX3_append_11 : decode cX3_append 11 = .ok (.iconst 3, 1) := dk_ (by decide +kernel)
theorem dX3_append_12 : decode cX3_append 12 = .ok (.aload_n 0, 1) := dk_ (by decide +kernel)
theorem dX3_append_13 : decode cX3_append 13 = .ok (.getfield 7, 3) := dk_ (by decide +kernel)
theorem dX3_append_16 : decode cX3_append 16 = .ok (.imul, 1) := dk_ (by decide +kernel)
theorem dX3_append_17 : decode cX3_append 17 = .ok (.iload_n 1, 1) := dk_ (by decide +kernel)
theorem dX3_append_18 : decode cX3_append 18 = .ok (.iastore, 1) := dk_ (by decide +kernel)
theorem dX3_append_19 : decode cX3_append 19 = .ok (.aload_n 0, 1) := dk_ (by decide +kernel)
theorem dX3_append_20 : decode cX3_append 20 = .ok (.getfield 16, 3) := dk_ (by decide +kernel)
theorem dX3_append_23 : decode cX3_append 23 = .ok (.iconst 3, 1) := dk_ (by decide +kernel)
theorem dX3_append_24 : decode cX3_append 24 = .ok (.aload_n 0, 1) := dk_ (by decide +kernel)
theorem dX3_append_25 : decode cX3_append 25 = .ok (.getfield 7, 3) := dk_ (by decide +kernel)
theorem dX3_append_28 : decode cX3_append 28 = .ok (.imul, 1) := dk_ (by decide +kernel)
theorem dX3_append_29 : decode cX3_append 29 = .ok (.iconst 1, 1) := dk_ (by decide +kernel)
theorem dX3_append_30 : decode cX3_append 30 = .ok (.iadd, 1) := dk_ (by decide +kernel)
theorem dX3_append_31 : decode cX3_append 31 = .ok (.iload_n 2, 1) := dk_ (by decide +kernel)
theorem dX3_append_32 : decode cX3_append 32 = .ok (.iastore, 1) := dk_ (by decide +kernel)
theorem dX3_append_33 : decode cX3_append 33 = .ok (.aload_n 0, 1) := dk_ (by decide +kernel)
theorem dX3_append_34 : decode cX3_append 34 = .ok (.getfield 16, 3) := dk_ (by decide +kernel)
theorem dX3_append_37 : decode cX3_append 37 = .ok (.iconst 3, 1) := dk_ (by decide +kernel)
theorem dX3_append_38 : decode cX3_append 38 = .ok (.aload_n 0, 1) := dk_ (by decide +kernel)
theorem dX3_append_39 : decode cX3_append 39 = .ok (.getfield 7, 3) := dk_ (by decide +kernel)
theorem dX3_append_42 : decode cX3_append 42 = .ok (.imul, 1) := dk_ (by decide +kernel)
theorem dX3_append_43 : decode cX3_append 43 = .ok (.iconst 2, 1) := dk_ (by decide +kernel)
theorem dX3_append_44 : decode cX3_append 44 = .ok (.iadd, 1) := dk_ (by decide +kernel)
theorem dX3_append_45 : decode cX3_append 45 = .ok (.iload_n 3, 1) := dk_ (by decide +kernel)
theorem dX3_append_46 : decode cX3_append 46 = .ok (.iastore, 1) := dk_ (by decide +kernel)
theorem dX3_append_47 : decode cX3_append 47 = .ok (.aload_n 0, 1) := dk_ (by decide +kernel)
theorem dX3_append_48 : decode cX3_append 48 = .ok (.dup, 1) := dk_ (by decide +kernel)
theorem dX3_append_49 : decode cX3_append 49 = .ok (.getfield 7, 3) := dk_ (by decide +kernel)
theorem dX3_append_52 : decode cX3_append 52 = .ok (.iconst 1, 1) := dk_ (by decide +kernel)
theorem dX3_append_53 : decode cX3_append 53 = .ok (.iadd, 1) := dk_ (by decide +kernel)
theorem dX3_append_54 : decode cX3_append 54 = .ok (.putfield 7, 3) := dk_ (by decide +kernel)
theorem dX3_append_57 : decode cX3_append 57 = .ok (.aload_n 0, 1) := dk_ (by decide +kernel)
theorem dX3_append_58 : decode cX3_append 58 = .ok (.getfield 7, 3) := dk_ (by decide +kernel)
theorem dX3_append_61 : decode cX3_append 61 = .ok (.ireturn, 1) := dk_ (by decide +kernel)
theorem dX3_subject_0 : decode cX3_subject 0 = .ok (.aload_n 0, 1) := dk_ (by decide +kernel)
theorem dX3_subject_1 : decode cX3_subject 1 = .ok (.getfield 16, 3) := dk_ (by decide +kernel)
theorem dX3_subject_4 : decode cX3_subject 4 = .ok (.iconst 3, 1) := dk_ (by decide +kernel)
theorem dX3_subject_5 : decode cX3_subject 5 = .ok (.iload_n 1, 1) := dk_ (by decide +kernel)
theorem dX3_subject_6 : decode cX3_subject 6 = .ok (.imul, 1) := dk_ (by decide +kernel)
theorem dX3_subject_7 : decode cX3_subject 7 = .ok (.iaload, 1) := dk_ (by decide +kernel)
theorem dX3_subject_8 : decode cX3_subject 8 = .ok (.ireturn, 1) := dk_ (by decide +kernel)
theorem dX3_property_0 : decode cX3_property 0 = .ok (.aload_n 0, 1) := dk_ (by decide +kernel)
theorem dX3_property_1 : decode cX3_property 1 = .ok (.getfield 16, 3) := dk_ (by decide +kernel)
theorem dX3_property_4 : decode cX3_property 4 = .ok (.iconst 3, 1) := dk_ (by decide +kernel)
theorem dX3_property_5 : decode cX3_property 5 = .ok (.iload_n 1, 1) := dk_ (by decide +kernel)
theorem dX3_property_6 : decode cX3_property 6 = .ok (.imul, 1) := dk_ (by decide +kernel)
theorem dX3_property_7 : decode cX3_property 7 = .ok (.iconst 1, 1) := dk_ (by decide +kernel)
theorem dX3_property_8 : decode cX3_property 8 = .ok (.iadd, 1) := dk_ (by decide +kernel)
theorem dX3_property_9 : decode cX3_property 9 = .ok (.iaload, 1) := dk_ (by decide +kernel)
theorem dX3_property_10 : decode cX3_property 10 = .ok (.ireturn, 1) := dk_ (by decide +kernel)
theorem dX3_object_0 : decode cX3_object 0 = .ok (.aload_n 0, 1) := dk_ (by decide +kernel)
theorem dX3_object_1 : decode cX3_object 1 = .ok (.getfield 16, 3) := dk_ (by decide +kernel)
theorem dX3_object_4 : decode cX3_object 4 = .ok (.iconst 3, 1) := dk_ (by decide +kernel)
theorem dX3_object_5 : decode cX3_object 5 = .ok (.iload_n 1, 1) := dk_ (by decide +kernel)
theorem dX3_object_6 : decode cX3_object 6 = .ok (.imul, 1) := dk_ (by decide +kernel)
theorem dX3_object_7 : decode cX3_object 7 = .ok (.iconst 2, 1) := dk_ (by decide +kernel)
theorem dX3_object_8 : decode cX3_object 8 = .ok (.iadd, 1) := dk_ (by decide +kernel)
theorem dX3_object_9 : decode cX3_object 9 = .ok (.iaload, 1) := dk_ (by decide +kernel)
theorem dX3_object_10 : decode cX3_object 10 = .ok (.ireturn, 1) := dk_ (by decide +kernel)
theorem dX4_init_0 : decode cX4_init 0 = .ok (.aload_n 0, 1) := dk_ (by decide +kernel)
theorem dX4_init_1 : decode cX4_init 1 = .ok (.invokespecial 3, 3) := dk_ (by decide +kernel)
theorem dX4_init_4 : decode cX4_init 4 = .ok (.aload_n 0, 1) := dk_ (by decide +kernel)
theorem dX4_init_5 : decode cX4_init 5 = .ok (.iconst 5, 1) := dk_ (by decide +kernel)
theorem dX4_init_6 : decode cX4_init 6 = .ok (.iconst 4, 1) := dk_ (by decide +kernel)
theorem dX4_init_7 : decode cX4_init 7 = .ok (.multianewarray 9 2, 4) := dk_ (by decide +kernel)
theorem dX4_init_11 : decode cX4_init 11 = .ok (.putfield 11, 3) := dk_ (by decide +kernel)
theorem dX4_init_14 : decode cX4_init 14 = .ok (.aload_n 0, 1) := dk_ (by decide +kernel)
theorem dX4_init_15 : decode cX4_init 15 = .ok (.sipush 400, 3) := dk_ (by decide +kernel)
theorem dX4_init_18 : decode cX4_init 18 = .ok (.newarray .int, 2) := dk_ (by decide +kernel)
theorem dX4_init_20 : decode cX4_init 20 = .ok (.putfield 16, 3) := dk_ (by decide +kernel)
theorem dX4_init_23 : decode cX4_init 23 = .ok (.aload_n 0, 1) := dk_ (by decide +kernel)
theorem dX4_init_24 : decode cX4_init 24 = .ok (.iconst 0, 1) := dk_ (by decide +kernel)
theorem dX4_init_25 : decode cX4_init 25 = .ok (.putfield 20, 3) := dk_ (by decide +kernel)
theorem dX4_init_28 : decode cX4_init 28 = .ok (.aload_n 0, 1) := dk_ (by decide +kernel)
theorem dX4_init_29 : decode cX4_init 29 = .ok (.iconst 0, 1) := dk_ (by decide +kernel)
theorem dX4_init_30 : decode cX4_init 30 = .ok (.putfield 24, 3) := dk_ (by decide +kernel)
theorem dX4_init_33 : decode cX4_init 33 = .ok (.return_, 1) := dk_ (by decide +kernel)
theorem dX4_find_0 : decode cX4_find 0 = .ok (.aload_n 0, 1) := dk_ (by decide +kernel)
theorem dX4_find_1 : decode cX4_find 1 = .ok (.iconst 0, 1) := dk_ (by decide +kernel)
theorem dX4_find_2 : decode cX4_find 2 = .ok (.putfield 20, 3) := dk_ (by decide +kernel)
theorem dX4_find_5 : decode cX4_find 5 = .ok (.aload_n 0, 1) := dk_ (by decide +kernel)
theorem dX4_find_6 : decode cX4_find 6 = .ok (.iconst 0, 1) := dk_ (by decide +kernel)
theorem dX4_find_7 : decode cX4_find 7 = .ok (.putfield 24, 3) := dk_ (by decide +kernel)
theorem dX4_find_10 : decode cX4_find 10 = .ok (.aload_n 0, 1) := dk_ (by decide +kernel)
theorem dX4_find_11 : decode cX4_find 11 = .ok (.getfield 11, 3) := dk_ (by decide +kernel)
theorem dX4_find_14 : decode cX4_find 14 = .ok (.iconst 0, 1) := dk_ (by decide +kernel)
theorem dX4_find_15 : decode cX4_find 15 = .ok (.aaload, 1) := dk_ (by decide +kernel)
theorem dX4_find_16 : decode cX4_find 16 = .ok (.iconst (-1), 1) := dk_ (by decide +kernel)
theorem dX4_find_17 : decode cX4_find 17 = .ok (.invokestatic 27, 3) := dk_ (by decide +kernel)
theorem dX4_find_20 : decode cX4_find 20 = .ok (.aload_n 0, 1) := dk_ (by decide +kernel)
theorem dX4_find_21 : decode cX4_find 21 = .ok (.aload_n 1, 1) := dk_ (by decide +kernel)
theorem dX4_find_22 : decode cX4_find 22 = .ok (.aload_n 2, 1) := dk_ (by decide +kernel)
theorem dX4_find_23 : decode cX4_find 23 = .ok (.iconst 0, 1) := dk_ (by decide +kernel)
theorem dX4_find_24 : decode cX4_find 24 = .ok (.invokevirtual 33, 3) := dk_ (by decide +kernel)
theorem dX4_find_27 : decode cX4_find 27 = .ok (.ireturn, 1) := dk_ (by decide +kernel)
theorem dX4_valueIn_0 : decode cX4_valueIn 0 = .ok (.aload_n 0, 1) := dk_ (by decide +kernel)
theorem dX4_valueIn_1 : decode cX4_valueIn 1 = .ok (.getfield 16, 3) := dk_ (by decide +kernel)
theorem dX4_valueIn_4 : decode cX4_valueIn 4 = .ok (.iload_n 1, 1) := dk_ (by decide +kernel)
theorem dX4_valueIn_5 : decode cX4_valueIn 5 = .ok (.iconst 4, 1) := dk_ (by decide +kernel)
theorem dX4_valueIn_6 : decode cX4_valueIn 6 = .ok (.imul, 1) := dk_ (by decide +kernel)
theorem dX4_valueIn_7 : decode cX4_valueIn 7 = .ok (.iconst (-1), 1) := dk_ (by decide +kernel)
theorem dX4_valueIn_8 : decode cX4_valueIn 8 = .ok (.iadd, 1) := dk_ (by decide +kernel)
theorem dX4_valueIn_9 : decode cX4_valueIn 9 = .ok (.iload_n 2, 1) := dk_ (by decide +kernel)
theorem dX4_valueIn_10 : decode cX4_valueIn 10 = .ok (.isub, 1) := dk_ (by decide +kernel)
theorem dX4_valueIn_11 : decode cX4_valueIn 11 = .ok (.iaload, 1) := dk_ (by decide +kernel)
theorem dX4_valueIn_12 : decode cX4_valueIn 12 = .ok (.ireturn, 1) := dk_ (by decide +kernel)
theorem dX4_goOn_0 : decode cX4_goOn 0 = .ok (.iload_n 3, 1) := dk_ (by decide +kernel)
theorem dX4_goOn_1 : decode cX4_goOn 1 = .ok (.aload_n 1, 1) := dk_ (by decide +kernel)
theorem dX4_goOn_2 : decode cX4_goOn 2 = .ok (.getfield 37, 3) := dk_ (by decide +kernel)
theorem dX4_goOn_5 : decode cX4_goOn 5 = .ok (.if_icmp .ge 8, 3) := dk_ (by decide +kernel)
theorem dX4_goOn_8 : decode cX4_goOn 8 = .ok (.iload_n 3, 1) := dk_ (by decide +kernel)
theorem dX4_goOn_9 : decode cX4_goOn 9 = .ok (.iconst 4, 1) := dk_ (by decide +kernel)
theorem dX4_goOn_10 : decode cX4_goOn 10 = .ok (.if_icmp .lt 14, 3) := dk_ (by decide +kernel)
theorem dX4_goOn_13 : decode cX4_goOn 13 = .ok (.aload_n 0, 1) := dk_ (by decide +kernel)
theorem dX4_goOn_14 : decode cX4_goOn 14 = .ok (.aload_n 0, 1) := dk_ (by decide +kernel)
theorem dX4_goOn_15 : decode cX4_goOn 15 = .ok (.getfield 11, 3) := dk_ (by decide +kernel)
theorem dX4_goOn_18 : decode cX4_goOn 18 = .ok (.iload_n 3, 1) := dk_ (by decide +kernel)
theorem dX4_goOn_19 : decode cX4_goOn 19 = .ok (.aaload, 1) := dk_ (by decide +kernel)
theorem dX4_goOn_20 : decode cX4_goOn 20 = .ok (.invokevirtual 42, 3) := dk_ (by decide +kernel)
theorem dX4_goOn_23 : decode cX4_goOn 23 = .ok (.ireturn, 1) := dk_ (by decide +kernel)
theorem dX4_goOn_24 : decode cX4_goOn 24 = .ok (.iconst 1, 1) := dk_ (by decide +kernel)
theorem dX4_goOn_25 : decode cX4_goOn 25 = .ok (.istore 4, 2) := dk_ (by decide +kernel)
theorem dX4_goOn_27 : decode cX4_goOn 27 = .ok (.iconst 0, 1) := dk_ (by decide +kernel)
theorem dX4_goOn_28 : decode cX4_goOn 28 = .ok (.istore 5, 2) := dk_ (by decide +kernel)
theorem dX4_goOn_30 : decode cX4_goOn 30 = .ok (.iload 5, 2) := dk_ (by decide +kernel)
theorem dX4_goOn_32 : decode cX4_goOn 32 = .ok (.aload_n 2, 1) := dk_ (by decide +kernel)
theorem dX4_goOn_33 : decode cX4_goOn 33 = .ok (.getfield 46, 3) := dk_ (by decide +kernel)
theorem dX4_goOn_36 : decode cX4_goOn 36 = .ok (.if_icmp .ge 30, 3) := dk_ (by decide +kernel)
theorem dX4_goOn_39 : decode cX4_goOn 39 = .ok (.iload 4, 2) := dk_ (by decide +kernel)
theorem dX4_goOn_41 : decode cX4_goOn 41 = .ok (.ifCond .eq 25, 3) := dk_ (by decide +kernel)
theorem dX4_goOn_44 : decode cX4_goOn 44 = .ok (.aload_n 0, 1) := dk_ (by decide +kernel)
theorem dX4_goOn_45 : decode cX4_goOn 45 = .ok (.aload_n 1, 1) := dk_ (by decide +kernel)
theorem dX4_goOn_46 : decode cX4_goOn 46 = .ok (.aload_n 2, 1) := dk_ (by decide +kernel)
theorem dX4_goOn_47 : decode cX4_goOn 47 = .ok (.iload_n 3, 1) := dk_ (by decide +kernel)
theorem dX4_goOn_48 : decode cX4_goOn 48 = .ok (.aload_n 2, 1) := dk_ (by decide +kernel)
theorem dX4_goOn_49 : decode cX4_goOn 49 = .ok (.getfield 51, 3) := dk_ (by decide +kernel)
theorem dX4_goOn_52 : decode cX4_goOn 52 = .ok (.iload 5, 2) := dk_ (by decide +kernel)
theorem dX4_goOn_54 : decode cX4_goOn 54 = .ok (.iaload, 1) := dk_ (by decide +kernel)
theorem dX4_goOn_55 : decode cX4_goOn 55 = .ok (.invokevirtual 54, 3) := dk_ (by decide +kernel)
theorem dX4_goOn_58 : decode cX4_goOn 58 = .ok (.istore 4, 2) := dk_ (by decide +kernel)
theorem dX4_goOn_60 : decode cX4_goOn 60 = .ok (.iinc 5 1, 3) := dk_ (by decide +kernel)
theorem dX4_goOn_63 : decode cX4_goOn 63 = .ok (.goto (-33), 3) := dk_ (by decide +kernel)
theorem dX4_goOn_66 : decode cX4_goOn 66 = .ok (.iload 4, 2) := dk_ (by decide +kernel)
theorem dX4_goOn_68 : decode cX4_goOn 68 = .ok (.ireturn, 1) := dk_ (by decide +kernel)
theorem dX4_holdAgainst_0 : decode cX4_holdAgainst 0 = .ok (.aload_n 0, 1) := dk_ (by decide +kernel)
theorem dX4_holdAgainst_1 : decode cX4_holdAgainst 1 = .ok (.dup, 1) := dk_ (by decide +kernel)
theorem dX4_holdAgainst_2 : decode cX4_holdAgainst 2 = .ok (.getfield 24, 3) := dk_ (by decide +kernel)
theorem dX4_holdAgainst_5 : decode cX4_holdAgainst 5 = .ok (.iconst 1, 1) := dk_ (by decide +kernel)
theorem dX4_holdAgainst_6 : decode cX4_holdAgainst 6 = .ok (.iadd, 1) := dk_ (by decide +kernel)
theorem dX4_holdAgainst_7 : decode cX4_holdAgainst 7 = .ok (.putfield 24, 3) := dk_ (by decide +kernel)
theorem dX4_holdAgainst_10 : decode cX4_holdAgainst 10 = .ok (.aload_n 0, 1) := dk_ (by decide +kernel)
theorem dX4_holdAgainst_11 : decode cX4_holdAgainst 11 = .ok (.getfield 24, 3) := dk_ (by decide +kernel)
theorem dX4_holdAgainst_14 : decode cX4_holdAgainst 14 = .ok (.sipush 5000, 3) := dk_ (by decide +kernel)
theorem dX4_holdAgainst_17 : decode cX4_holdAgainst 17 = .ok (.if_icmp .le 5, 3) := dk_ (by decide +kernel)
theorem dX4_holdAgainst_20 : decode cX4_holdAgainst 20 = .ok (.iconst 0, 1) := dk_ (by decide +kernel)
theorem dX4_holdAgainst_21 : decode cX4_holdAgainst 21 = .ok (.ireturn, 1) := dk_ (by decide +kernel)
theorem dX4_holdAgainst_22 : decode cX4_holdAgainst 22 = .ok (.aload_n 0, 1) := dk_ (by decide +kernel)
theorem dX4_holdAgainst_23 : decode cX4_holdAgainst 23 = .ok (.aload_n 1, 1) := dk_ (by decide +kernel)
theorem dX4_holdAgainst_24 : decode cX4_holdAgainst 24 = .ok (.iload_n 3, 1) := dk_ (by decide +kernel)
theorem dX4_holdAgainst_25 : decode cX4_holdAgainst 25 = .ok (.iload 4, 2) := dk_ (by decide +kernel)
theorem dX4_holdAgainst_27 : decode cX4_holdAgainst 27 = .ok (.invokevirtual 58, 3) := dk_ (by decide +kernel)
theorem dX4_holdAgainst_30 : decode cX4_holdAgainst 30 = .ok (.ifCond .eq 15, 3) := dk_ (by decide +kernel)
theorem dX4_holdAgainst_33 : decode cX4_holdAgainst 33 = .ok (.aload_n 0, 1) := dk_ (by decide +kernel)
theorem dX4_holdAgainst_34 : decode cX4_holdAgainst 34 = .ok (.aload_n 1, 1) := dk_ (by decide +kernel)
theorem dX4_holdAgainst_35 : decode cX4_holdAgainst 35 = .ok (.aload_n 2, 1) := dk_ (by decide +kernel)
theorem dX4_holdAgainst_36 : decode cX4_holdAgainst 36 = .ok (.iload_n 3, 1) := dk_ (by decide +kernel)
theorem dX4_holdAgainst_37 : decode cX4_holdAgainst 37 = .ok (.iconst 1, 1) := dk_ (by decide +kernel)
theorem dX4_holdAgainst_38 : decode cX4_holdAgainst 38 = .ok (.iadd, 1) := dk_ (by decide +kernel)
theorem dX4_holdAgainst_39 : decode cX4_holdAgainst 39 = .ok (.invokevirtual 33, 3) := dk_ (by decide +kernel)
theorem dX4_holdAgainst_42 : decode cX4_holdAgainst 42 = .ok (.ifCond .eq 7, 3) := dk_ (by decide +kernel)
theorem dX4_holdAgainst_45 : decode cX4_holdAgainst 45 = .ok (.iconst 1, 1) := dk_ (by decide +kernel)
theorem dX4_holdAgainst_46 : decode cX4_holdAgainst 46 = .ok (.goto 4, 3) := dk_ (by decide +kernel)
theorem dX4_holdAgainst_49 : decode cX4_holdAgainst 49 = .ok (.iconst 0, 1) := dk_ (by decide +kernel)
theorem dX4_holdAgainst_50 : decode cX4_holdAgainst 50 = .ok (.ireturn, 1) := dk_ (by decide +kernel)
theorem dX4_keep_0 : decode cX4_keep 0 = .ok (.aload_n 0, 1) := dk_ (by decide +kernel)
theorem dX4_keep_1 : decode cX4_keep 1 = .ok (.dup, 1) := dk_ (by decide +kernel)
theorem dX4_keep_2 : decode cX4_keep 2 = .ok (.getfield 20, 3) := dk_ (by decide +kernel)
theorem dX4_keep_5 : decode cX4_keep 5 = .ok (.iconst 1, 1) := dk_ (by decide +kernel)
theorem dX4_keep_6 : decode cX4_keep 6 = .ok (.iadd, 1) := dk_ (by decide +kernel)
theorem dX4_keep_7 : decode cX4_keep 7 = .ok (.putfield 20, 3) := dk_ (by decide +kernel)
theorem dX4_keep_10 : decode cX4_keep 10 = .ok (.aload_n 0, 1) := dk_ (by decide +kernel)
theorem dX4_keep_11 : decode cX4_keep 11 = .ok (.getfield 20, 3) := dk_ (by decide +kernel)
theorem dX4_keep_14 : decode cX4_keep 14 = .ok (.bipush 100, 2) := dk_ (by decide +kernel)
theorem dX4_keep_16 : decode cX4_keep 16 = .ok (.if_icmp .le 5, 3) := dk_ (by decide +kernel)
theorem dX4_keep_19 : decode cX4_keep 19 = .ok (.iconst 0, 1) := dk_ (by decide +kernel)
theorem dX4_keep_20 : decode cX4_keep 20 = .ok (.ireturn, 1) := dk_ (by decide +kernel)
theorem dX4_keep_21 : decode cX4_keep 21 = .ok (.aload_n 1, 1) := dk_ (by decide +kernel)
theorem dX4_keep_22 : decode cX4_keep 22 = .ok (.iconst 0, 1) := dk_ (by decide +kernel)
theorem dX4_keep_23 : decode cX4_keep 23 = .ok (.aload_n 0, 1) := dk_ (by decide +kernel)
theorem dX4_keep_24 : decode cX4_keep 24 = .ok (.getfield 16, 3) := dk_ (by decide +kernel)
theorem dX4_keep_27 : decode cX4_keep 27 = .ok (.aload_n 0, 1) := dk_ (by decide +kernel)
theorem dX4_keep_28 : decode cX4_keep 28 = .ok (.getfield 20, 3) := dk_ (by decide +kernel)
theorem dX4_keep_31 : decode cX4_keep 31 = .ok (.iconst 1, 1) := dk_ (by decide +kernel)
theorem dX4_keep_32 : decode cX4_keep 32 = .ok (.isub, 1) := dk_ (by decide +kernel)
theorem dX4_keep_33 : decode cX4_keep 33 = .ok (.iconst 4, 1) := dk_ (by decide +kernel)
theorem dX4_keep_34 : decode cX4_keep 34 = .ok (.imul, 1) := dk_ (by decide +kernel)
theorem dX4_keep_35 : decode cX4_keep 35 = .ok (.iconst 4, 1) := dk_ (by decide +kernel)
theorem dX4_keep_36 : decode cX4_keep 36 = .ok (.invokestatic 62, 3) := dk_ (by decide +kernel)
theorem dX4_keep_39 : decode cX4_keep 39 = .ok (.iconst 1, 1) := dk_ (by decide +kernel)
theorem dX4_keep_40 : decode cX4_keep 40 = .ok (.ireturn, 1) := dk_ (by decide +kernel)
theorem dX4_fits_0 : decode cX4_fits 0 = .ok (.aload_n 0, 1) := dk_ (by decide +kernel)
theorem dX4_fits_1 : decode cX4_fits 1 = .ok (.getfield 11, 3) := dk_ (by decide +kernel)
theorem dX4_fits_4 : decode cX4_fits 4 = .ok (.iload_n 2, 1) := dk_ (by decide +kernel)
theorem dX4_fits_5 : decode cX4_fits 5 = .ok (.iconst 1, 1) := dk_ (by decide +kernel)
theorem dX4_fits_6 : decode cX4_fits 6 = .ok (.iadd, 1) := dk_ (by decide +kernel)
theorem dX4_fits_7 : decode cX4_fits 7 = .ok (.aaload, 1) := dk_ (by decide +kernel)
theorem dX4_fits_8 : decode cX4_fits 8 = .ok (.astore 4, 2) := dk_ (by decide +kernel)
theorem dX4_fits_10 : decode cX4_fits 10 = .ok (.aload_n 0, 1) := dk_ (by decide +kernel)
theorem dX4_fits_11 : decode cX4_fits 11 = .ok (.getfield 11, 3) := dk_ (by decide +kernel)
theorem dX4_fits_14 : decode cX4_fits 14 = .ok (.iload_n 2, 1) := dk_ (by decide +kernel)
theorem dX4_fits_15 : decode cX4_fits 15 = .ok (.aaload, 1) := dk_ (by decide +kernel)
theorem dX4_fits_16 : decode cX4_fits 16 = .ok (.iconst 0, 1) := dk_ (by decide +kernel)
theorem dX4_fits_17 : decode cX4_fits 17 = .ok (.aload 4, 2) := dk_ (by decide +kernel)
theorem dX4_fits_19 : decode cX4_fits 19 = .ok (.iconst 0, 1) := dk_ (by decide +kernel)
theorem dX4_fits_20 : decode cX4_fits 20 = .ok (.iconst 4, 1) := dk_ (by decide +kernel)
theorem dX4_fits_21 : decode cX4_fits 21 = .ok (.invokestatic 62, 3) := dk_ (by decide +kernel)
theorem dX4_fits_24 : decode cX4_fits 24 = .ok (.aload 4, 2) := dk_ (by decide +kernel)
theorem dX4_fits_26 : decode cX4_fits 26 = .ok (.aload_n 1, 1) := dk_ (by decide +kernel)
theorem dX4_fits_27 : decode cX4_fits 27 = .ok (.iload_n 2, 1) := dk_ (by decide +kernel)
theorem dX4_fits_28 : decode cX4_fits 28 = .ok (.invokevirtual 68, 3) := dk_ (by decide +kernel)
theorem dX4_fits_31 : decode cX4_fits 31 = .ok (.iload_n 3, 1) := dk_ (by decide +kernel)
theorem dX4_fits_32 : decode cX4_fits 32 = .ok (.iconst 0, 1) := dk_ (by decide +kernel)
theorem dX4_fits_33 : decode cX4_fits 33 = .ok (.invokestatic 72, 3) := dk_ (by decide +kernel)
theorem dX4_fits_36 : decode cX4_fits 36 = .ok (.invokestatic 76, 3) := dk_ (by decide +kernel)
theorem dX4_fits_39 : decode cX4_fits 39 = .ok (.ifCond .eq 43, 3) := dk_ (by decide +kernel)
theorem dX4_fits_42 : decode cX4_fits 42 = .ok (.aload 4, 2) := dk_ (by decide +kernel)
theorem dX4_fits_44 : decode cX4_fits 44 = .ok (.aload_n 1, 1) := dk_ (by decide +kernel)
theorem dX4_fits_45 : decode cX4_fits 45 = .ok (.iload_n 2, 1) := dk_ (by decide +kernel)
theorem dX4_fits_46 : decode cX4_fits 46 = .ok (.invokevirtual 80, 3) := dk_ (by decide +kernel)
theorem dX4_fits_49 : decode cX4_fits 49 = .ok (.iload_n 3, 1) := dk_ (by decide +kernel)
theorem dX4_fits_50 : decode cX4_fits 50 = .ok (.iconst 1, 1) := dk_ (by decide +kernel)
theorem dX4_fits_51 : decode cX4_fits 51 = .ok (.invokestatic 72, 3) := dk_ (by decide +kernel)
theorem dX4_fits_54 : decode cX4_fits 54 = .ok (.invokestatic 76, 3) := dk_ (by decide +kernel)
theorem dX4_fits_57 : decode cX4_fits 57 = .ok (.ifCond .eq 25, 3) := dk_ (by decide +kernel)
theorem dX4_fits_60 : decode cX4_fits 60 = .ok (.aload 4, 2) := dk_ (by decide +kernel)
theorem dX4_fits_62 : decode cX4_fits 62 = .ok (.aload_n 1, 1) := dk_ (by decide +kernel)
theorem dX4_fits_63 : decode cX4_fits 63 = .ok (.iload_n 2, 1) := dk_ (by decide +kernel)
theorem dX4_fits_64 : decode cX4_fits 64 = .ok (.invokevirtual 83, 3) := dk_ (by decide +kernel)
theorem dX4_fits_67 : decode cX4_fits 67 = .ok (.iload_n 3, 1) := dk_ (by decide +kernel)
theorem dX4_fits_68 : decode cX4_fits 68 = .ok (.iconst 2, 1) := dk_ (by decide +kernel)
theorem dX4_fits_69 : decode cX4_fits 69 = .ok (.invokestatic 72, 3) := dk_ (by decide +kernel)
theorem dX4_fits_72 : decode cX4_fits 72 = .ok (.invokestatic 76, 3) := dk_ (by decide +kernel)
theorem dX4_fits_75 : decode cX4_fits 75 = .ok (.ifCond .eq 7, 3) := dk_ (by decide +kernel)
theorem dX4_fits_78 : decode cX4_fits 78 = .ok (.iconst 1, 1) := dk_ (by decide +kernel)
theorem dX4_fits_79 : decode cX4_fits 79 = .ok (.goto 4, 3) := dk_ (by decide +kernel)
theorem dX4_fits_82 : decode cX4_fits 82 = .ok (.iconst 0, 1) := dk_ (by decide +kernel)
theorem dX4_fits_83 : decode cX4_fits 83 = .ok (.ireturn, 1) := dk_ (by decide +kernel)
theorem dX4_agrees_0 : decode cX4_agrees 0 = .ok (.iload_n 1, 1) := dk_ (by decide +kernel)
theorem dX4_agrees_1 : decode cX4_agrees 1 = .ok (.ifCond .lt 14, 3) := dk_ (by decide +kernel)
theorem dX4_agrees_4 : decode cX4_agrees 4 = .ok (.iload_n 1, 1) := dk_ (by decide +kernel)
theorem dX4_agrees_5 : decode cX4_agrees 5 = .ok (.iload_n 2, 1) := dk_ (by decide +kernel)
theorem dX4_agrees_6 : decode cX4_agrees 6 = .ok (.if_icmp .ne 7, 3) := dk_ (by decide +kernel)
theorem dX4_agrees_9 : decode cX4_agrees 9 = .ok (.iconst 1, 1) := dk_ (by decide +kernel)
theorem dX4_agrees_10 : decode cX4_agrees 10 = .ok (.goto 4, 3) := dk_ (by decide +kernel)
theorem dX4_agrees_13 : decode cX4_agrees 13 = .ok (.iconst 0, 1) := dk_ (by decide +kernel)
theorem dX4_agrees_14 : decode cX4_agrees 14 = .ok (.ireturn, 1) := dk_ (by decide +kernel)
theorem dX4_agrees_15 : decode cX4_agrees 15 = .ok (.iconst (-1), 1) := dk_ (by decide +kernel)
theorem dX4_agrees_16 : decode cX4_agrees 16 = .ok (.iload_n 1, 1) := dk_ (by decide +kernel)
theorem dX4_agrees_17 : decode cX4_agrees 17 = .ok (.isub, 1) := dk_ (by decide +kernel)
theorem dX4_agrees_18 : decode cX4_agrees 18 = .ok (.istore_n 3, 1) := dk_ (by decide +kernel)
theorem dX4_agrees_19 : decode cX4_agrees 19 = .ok (.aload_n 0, 1) := dk_ (by decide +kernel)
theorem dX4_agrees_20 : decode cX4_agrees 20 = .ok (.iload_n 3, 1) := dk_ (by decide +kernel)
theorem dX4_agrees_21 : decode cX4_agrees 21 = .ok (.iaload, 1) := dk_ (by decide +kernel)
theorem dX4_agrees_22 : decode cX4_agrees 22 = .ok (.iconst (-1), 1) := dk_ (by decide +kernel)
theorem dX4_agrees_23 : decode cX4_agrees 23 = .ok (.if_icmp .ne 7, 3) := dk_ (by decide +kernel)
theorem dX4_agrees_26 : decode cX4_agrees 26 = .ok (.aload_n 0, 1) := dk_ (by decide +kernel)
theorem dX4_agrees_27 : decode cX4_agrees 27 = .ok (.iload_n 3, 1) := dk_ (by decide +kernel)
theorem dX4_agrees_28 : decode cX4_agrees 28 = .ok (.iload_n 2, 1) := dk_ (by decide +kernel)
theorem dX4_agrees_29 : decode cX4_agrees 29 = .ok (.iastore, 1) := dk_ (by decide +kernel)
theorem dX4_agrees_30 : decode cX4_agrees 30 = .ok (.aload_n 0, 1) := dk_ (by decide +kernel)
theorem dX4_agrees_31 : decode cX4_agrees 31 = .ok (.iload_n 3, 1) := dk_ (by decide +kernel)
theorem dX4_agrees_32 : decode cX4_agrees 32 = .ok (.iaload, 1) := dk_ (by decide +kernel)
theorem dX4_agrees_33 : decode cX4_agrees 33 = .ok (.iload_n 2, 1) := dk_ (by decide +kernel)
theorem dX4_agrees_34 : decode cX4_agrees 34 = .ok (.if_icmp .ne 7, 3) := dk_ (by decide +kernel)
theorem dX4_agrees_37 : decode cX4_agrees 37 = .ok (.iconst 1, 1) := dk_ (by decide +kernel)
theorem dX4_agrees_38 : decode cX4_agrees 38 = .ok (.goto 4, 3) := dk_ (by decide +kernel)
theorem dX4_agrees_41 : decode cX4_agrees 41 = .ok (.iconst 0, 1) := dk_ (by decide +kernel)
theorem dX4_agrees_42 : decode cX4_agrees 42 = .ok (.ireturn, 1) := dk_ (by decide +kernel)
theorem dX5_init_0 : decode cX5_init 0 = .ok (.aload_n 0, 1) := dk_ (by decide +kernel)
theorem dX5_init_1 : decode cX5_init 1 = .ok (.invokespecial 3, 3) := dk_ (by decide +kernel)
theorem dX5_init_4 : decode cX5_init 4 = .ok (.aload_n 0, 1) := dk_ (by decide +kernel)
theorem dX5_init_5 : decode cX5_init 5 = .ok (.new 9, 3) := dk_ (by decide +kernel)
theorem dX5_init_8 : decode cX5_init 8 = .ok (.dup, 1) := dk_ (by decide +kernel)
theorem dX5_init_9 : decode cX5_init 9 = .ok (.bipush 6, 2) := dk_ (by decide +kernel)
theorem dX5_init_11 : decode cX5_init 11 = .ok (.invokespecial 11, 3) := dk_ (by decide +kernel)
theorem dX5_init_14 : decode cX5_init 14 = .ok (.putfield 14, 3) := dk_ (by decide +kernel)
theorem dX5_init_17 : decode cX5_init 17 = .ok (.aload_n 0, 1) := dk_ (by decide +kernel)
theorem dX5_init_18 : decode cX5_init 18 = .ok (.bipush 6, 2) := dk_ (by decide +kernel)
theorem dX5_init_20 : decode cX5_init 20 = .ok (.newarray .boolean, 2) := dk_ (by decide +kernel)
theorem dX5_init_22 : decode cX5_init 22 = .ok (.putfield 20, 3) := dk_ (by decide +kernel)
theorem dX5_init_25 : decode cX5_init 25 = .ok (.aload_n 0, 1) := dk_ (by decide +kernel)
theorem dX5_init_26 : decode cX5_init 26 = .ok (.new 9, 3) := dk_ (by decide +kernel)
theorem dX5_init_29 : decode cX5_init 29 = .ok (.dup, 1) := dk_ (by decide +kernel)
theorem dX5_init_30 : decode cX5_init 30 = .ok (.iconst 4, 1) := dk_ (by decide +kernel)
theorem dX5_init_31 : decode cX5_init 31 = .ok (.invokespecial 11, 3) := dk_ (by decide +kernel)
theorem dX5_init_34 : decode cX5_init 34 = .ok (.putfield 24, 3) := dk_ (by decide +kernel)
theorem dX5_init_37 : decode cX5_init 37 = .ok (.aload_n 0, 1) := dk_ (by decide +kernel)
theorem dX5_init_38 : decode cX5_init 38 = .ok (.iconst 0, 1) := dk_ (by decide +kernel)
theorem dX5_init_39 : decode cX5_init 39 = .ok (.putfield 27, 3) := dk_ (by decide +kernel)
theorem dX5_init_42 : decode cX5_init 42 = .ok (.aload_n 0, 1) := dk_ (by decide +kernel)
theorem dX5_init_43 : decode cX5_init 43 = .ok (.iconst 0, 1) := dk_ (by decide +kernel)
theorem dX5_init_44 : decode cX5_init 44 = .ok (.putfield 31, 3) := dk_ (by decide +kernel)
theorem dX5_init_47 : decode cX5_init 47 = .ok (.aload_n 0, 1) := dk_ (by decide +kernel)
theorem dX5_init_48 : decode cX5_init 48 = .ok (.iconst 0, 1) := dk_ (by decide +kernel)
theorem dX5_init_49 : decode cX5_init 49 = .ok (.putfield 34, 3) := dk_ (by decide +kernel)
theorem dX5_init_52 : decode cX5_init 52 = .ok (.aload_n 0, 1) := dk_ (by decide +kernel)
theorem dX5_init_53 : decode cX5_init 53 = .ok (.iconst 0, 1) := dk_ (by decide +kernel)
theorem dX5_init_54 : decode cX5_init 54 = .ok (.putfield 37, 3) := dk_ (by decide +kernel)
theorem dX5_init_57 : decode cX5_init 57 = .ok (.aload_n 0, 1) := dk_ (by decide +kernel)
theorem dX5_init_58 : decode cX5_init 58 = .ok (.iconst (-1), 1) := dk_ (by decide +kernel)
theorem dX5_init_59 : decode cX5_init 59 = .ok (.putfield 41, 3) := dk_ (by decide +kernel)
theorem dX5_init_62 : decode cX5_init 62 = .ok (.return_, 1) := dk_ (by decide +kernel)
theorem dX5_begin_0 : decode cX5_begin 0 = .ok (.aload_n 0, 1) := dk_ (by decide +kernel)
theorem dX5_begin_1 : decode cX5_begin 1 = .ok (.iload_n 1, 1) := dk_ (by decide +kernel)
theorem dX5_begin_2 : decode cX5_begin 2 = .ok (.putfield 27, 3) := dk_ (by decide +kernel)
theorem dX5_begin_5 : decode cX5_begin 5 = .ok (.aload_n 0, 1) := dk_ (by decide +kernel)
theorem dX5_begin_6 : decode cX5_begin 6 = .ok (.iload_n 2, 1) := dk_ (by decide +kernel)
theorem dX5_begin_7 : decode cX5_begin 7 = .ok (.putfield 31, 3) := dk_ (by decide +kernel)
theorem dX5_begin_10 : decode cX5_begin 10 = .ok (.aload_n 0, 1) := dk_ (by decide +kernel)
theorem dX5_begin_11 : decode cX5_begin 11 = .ok (.iload_n 3, 1) := dk_ (by decide +kernel)
theorem dX5_begin_12 : decode cX5_begin 12 = .ok (.putfield 34, 3) := dk_ (by decide +kernel)
theorem dX5_begin_15 : decode cX5_begin 15 = .ok (.aload_n 0, 1) := dk_ (by decide +kernel)
theorem dX5_begin_16 : decode cX5_begin 16 = .ok (.iconst 0, 1) := dk_ (by decide +kernel)
theorem dX5_begin_17 : decode cX5_begin 17 = .ok (.putfield 37, 3) := dk_ (by decide +kernel)
theorem dX5_begin_20 : decode cX5_begin 20 = .ok (.aload_n 0, 1) := dk_ (by decide +kernel)
theorem dX5_begin_21 : decode cX5_begin 21 = .ok (.iconst (-1), 1) := dk_ (by decide +kernel)
theorem dX5_begin_22 : decode cX5_begin 22 = .ok (.putfield 41, 3) := dk_ (by decide +kernel)
theorem dX5_begin_25 : decode cX5_begin 25 = .ok (.aload_n 0, 1) := dk_ (by decide +kernel)
theorem dX5_begin_26 : decode cX5_begin 26 = .ok (.getfield 14, 3) := dk_ (by decide +kernel)
theorem dX5_begin_29 : decode cX5_begin 29 = .ok (.iconst 0, 1) := dk_ (by decide +kernel)
theorem dX5_begin_30 : decode cX5_begin 30 = .ok (.putfield 44, 3) := dk_ (by decide +kernel)
theorem dX5_begin_33 : decode cX5_begin 33 = .ok (.aload_n 0, 1) := dk_ (by decide +kernel)
theorem dX5_begin_34 : decode cX5_begin 34 = .ok (.getfield 24, 3) := dk_ (by decide +kernel)
theorem dX5_begin_37 : decode cX5_begin 37 = .ok (.iconst 0, 1) := dk_ (by decide +kernel)
theorem dX5_begin_38 : decode cX5_begin 38 = .ok (.putfield 44, 3) := dk_ (by decide +kernel)
theorem dX5_begin_41 : decode cX5_begin 41 = .ok (.return_, 1) := dk_ (by decide +kernel)
theorem dX5_addTemplate_0 : decode cX5_addTemplate 0 = .ok (.aload_n 0, 1) := dk_ (by decide +kernel)
theorem dX5_addTemplate_1 : decode cX5_addTemplate 1 = .ok (.getfield 14, 3) := dk_ (by decide +kernel)
theorem dX5_addTemplate_4 : decode cX5_addTemplate 4 = .ok (.invokevirtual 47, 3) := dk_ (by decide +kernel)
theorem dX5_addTemplate_7 : decode cX5_addTemplate 7 = .ok (.ifCond .ne 17, 3) := dk_ (by decide +kernel)
theorem dX5_addTemplate_10 : decode cX5_addTemplate 10 = .ok (.aload_n 0, 1) := dk_ (by decide +kernel)
theorem dX5_addTemplate_11 : decode cX5_addTemplate 11 = .ok (.getfield 20, 3) := dk_ (by decide +kernel)
theorem dX5_addTemplate_14 : decode cX5_addTemplate 14 = .ok (.aload_n 0, 1) := dk_ (by decide +kernel)
theorem dX5_addTemplate_15 : decode cX5_addTemplate 15 = .ok (.getfield 14, 3) := dk_ (by decide +kernel)
theorem dX5_addTemplate_18 : decode cX5_addTemplate 18 = .ok (.getfield 44, 3) := dk_ (by decide +kernel)
theorem dX5_addTemplate_21 : decode cX5_addTemplate 21 = .ok (.iload 4, 2) := dk_ (by decide +kernel)
theorem dX5_addTemplate_23 : decode cX5_addTemplate 23 = .ok (.bastore, 1) := dk_ (by decide +kernel)
theorem dX5_addTemplate_24 : decode cX5_addTemplate 24 = .ok (.aload_n 0, 1) := dk_ (by decide +kernel)
theorem dX5_addTemplate_25 : decode cX5_addTemplate 25 = .ok (.getfield 14, 3) := dk_ (by decide +kernel)
theorem dX5_addTemplate_28 : decode cX5_addTemplate 28 = .ok (.iload_n 1, 1) := dk_ (by decide +kernel)
theorem dX5_addTemplate_29 : decode cX5_addTemplate 29 = .ok (.iload_n 2, 1) := dk_ (by decide +kernel)
theorem dX5_addTemplate_30 : decode cX5_addTemplate 30 = .ok (.iload_n 3, 1) := dk_ (by decide +kernel)
theorem dX5_addTemplate_31 : decode cX5_addTemplate 31 = .ok (.invokevirtual 51, 3) := dk_ (by decide +kernel)
theorem dX5_addTemplate_34 : decode cX5_addTemplate 34 = .ok (.ireturn, 1) := dk_ (by decide +kernel)
theorem dX6_init_0 : decode cX6_init 0 = .ok (.aload_n 0, 1) := dk_ (by decide +kernel)
theorem dX6_init_1 : decode cX6_init 1 = .ok (.invokespecial 3, 3) := dk_ (by decide +kernel)
theorem dX6_init_4 : decode cX6_init 4 = .ok (.aload_n 0, 1) := dk_ (by decide +kernel)
theorem dX6_init_5 : decode cX6_init 5 = .ok (.bipush 7, 2) := dk_ (by decide +kernel)
theorem dX6_init_7 : decode cX6_init 7 = .ok (.anewarray 9, 3) := dk_ (by decide +kernel)
theorem dX6_init_10 : decode cX6_init 10 = .ok (.putfield 11, 3) := dk_ (by decide +kernel)
theorem dX6_init_13 : decode cX6_init 13 = .ok (.aload_n 0, 1) := dk_ (by decide +kernel)
theorem dX6_init_14 : decode cX6_init 14 = .ok (.iconst 0, 1) := dk_ (by decide +kernel)
theorem dX6_init_15 : decode cX6_init 15 = .ok (.putfield 17, 3) := dk_ (by decide +kernel)
theorem dX6_init_18 : decode cX6_init 18 = .ok (.iconst 0, 1) := dk_ (by decide +kernel)
theorem dX6_init_19 : decode cX6_init 19 = .ok (.istore_n 1, 1) := dk_ (by decide +kernel)
theorem dX6_init_20 : decode cX6_init 20 = .ok (.iload_n 1, 1) := dk_ (by decide +kernel)
theorem dX6_init_21 : decode cX6_init 21 = .ok (.bipush 7, 2) := dk_ (by decide +kernel)
theorem dX6_init_23 : decode cX6_init 23 = .ok (.if_icmp .ge 22, 3) := dk_ (by decide +kernel)
theorem dX6_init_26 : decode cX6_init 26 = .ok (.aload_n 0, 1) := dk_ (by decide +kernel)
theorem dX6_init_27 : decode cX6_init 27 = .ok (.getfield 11, 3) := dk_ (by decide +kernel)
theorem dX6_init_30 : decode cX6_init 30 = .ok (.iload_n 1, 1) := dk_ (by decide +kernel)
theorem dX6_init_31 : decode cX6_init 31 = .ok (.new 9, 3) := dk_ (by decide +kernel)
theorem dX6_init_34 : decode cX6_init 34 = .ok (.dup, 1) := dk_ (by decide +kernel)
theorem dX6_init_35 : decode cX6_init 35 = .ok (.invokespecial 21, 3) := dk_ (by decide +kernel)
theorem dX6_init_38 : decode cX6_init 38 = .ok (.aastore, 1) := dk_ (by decide +kernel)
theorem dX6_init_39 : decode cX6_init 39 = .ok (.iinc 1 1, 3) := dk_ (by decide +kernel)
theorem dX6_init_42 : decode cX6_init 42 = .ok (.goto (-22), 3) := dk_ (by decide +kernel)
theorem dX6_init_45 : decode cX6_init 45 = .ok (.aload_n 0, 1) := dk_ (by decide +kernel)
theorem dX6_init_46 : decode cX6_init 46 = .ok (.getfield 11, 3) := dk_ (by decide +kernel)
theorem dX6_init_49 : decode cX6_init 49 = .ok (.iconst 0, 1) := dk_ (by decide +kernel)
theorem dX6_init_50 : decode cX6_init 50 = .ok (.aaload, 1) := dk_ (by decide +kernel)
theorem dX6_init_51 : decode cX6_init 51 = .ok (.iconst 1, 1) := dk_ (by decide +kernel)
theorem dX6_init_52 : decode cX6_init 52 = .ok (.putfield 22, 3) := dk_ (by decide +kernel)
theorem dX6_init_55 : decode cX6_init 55 = .ok (.return_, 1) := dk_ (by decide +kernel)
theorem dX6_factCount_0 : decode cX6_factCount 0 = .ok (.iconst 0, 1) := dk_ (by decide +kernel)
theorem dX6_factCount_1 : decode cX6_factCount 1 = .ok (.istore_n 1, 1) := dk_ (by decide +kernel)
theorem dX6_factCount_2 : decode cX6_factCount 2 = .ok (.iconst 0, 1) := dk_ (by decide +kernel)
theorem dX6_factCount_3 : decode cX6_factCount 3 = .ok (.istore_n 2, 1) := dk_ (by decide +kernel)
theorem dX6_factCount_4 : decode cX6_factCount 4 = .ok (.iload_n 2, 1) := dk_ (by decide +kernel)
theorem dX6_factCount_5 : decode cX6_factCount 5 = .ok (.bipush 7, 2) := dk_ (by decide +kernel)
theorem dX6_factCount_7 : decode cX6_factCount 7 = .ok (.if_icmp .ge 21, 3) := dk_ (by decide +kernel)
theorem dX6_factCount_10 : decode cX6_factCount 10 = .ok (.iload_n 1, 1) := dk_ (by decide +kernel)
theorem dX6_factCount_11 : decode cX6_factCount 11 = .ok (.aload_n 0, 1) := dk_ (by decide +kernel)
theorem dX6_factCount_12 : decode cX6_factCount 12 = .ok (.getfield 11, 3) := dk_ (by decide +kernel)
theorem dX6_factCount_15 : decode cX6_factCount 15 = .ok (.iload_n 2, 1) := dk_ (by decide +kernel)
theorem dX6_factCount_16 : decode cX6_factCount 16 = .ok (.aaload, 1) := dk_ (by decide +kernel)
theorem dX6_factCount_17 : decode cX6_factCount 17 = .ok (.getfield 26, 3) := dk_ (by decide +kernel)
theorem dX6_factCount_20 : decode cX6_factCount 20 = .ok (.iadd, 1) := dk_ (by decide +kernel)
theorem dX6_factCount_21 : decode cX6_factCount 21 = .ok (.istore_n 1, 1) := dk_ (by decide +kernel)
theorem dX6_factCount_22 : decode cX6_factCount 22 = .ok (.iinc 2 1, 3) := dk_ (by decide +kernel)
theorem dX6_factCount_25 : decode cX6_factCount 25 = .ok (.goto (-21), 3) := dk_ (by decide +kernel)
theorem dX6_factCount_28 : decode cX6_factCount 28 = .ok (.iload_n 1, 1) := dk_ (by decide +kernel)
theorem dX6_factCount_29 : decode cX6_factCount 29 = .ok (.ireturn, 1) := dk_ (by decide +kernel)
theorem dX6_put_0 : decode cX6_put 0 = .ok (.aload_n 1, 1) := dk_ (by decide +kernel)
theorem dX6_put_1 : decode cX6_put 1 = .ok (.iconst 1, 1) := dk_ (by decide +kernel)
theorem dX6_put_2 : decode cX6_put 2 = .ok (.putfield 22, 3) := dk_ (by decide +kernel)
theorem dX6_put_5 : decode cX6_put 5 = .ok (.aload_n 1, 1) := dk_ (by decide +kernel)
theorem dX6_put_6 : decode cX6_put 6 = .ok (.iload_n 2, 1) := dk_ (by decide +kernel)
theorem dX6_put_7 : decode cX6_put 7 = .ok (.invokevirtual 29, 3) := dk_ (by decide +kernel)
theorem dX6_put_10 : decode cX6_put 10 = .ok (.ifCond .eq 5, 3) := dk_ (by decide +kernel)
theorem dX6_put_13 : decode cX6_put 13 = .ok (.iconst 1, 1) := dk_ (by decide +kernel)
theorem dX6_put_14 : decode cX6_put 14 = .ok (.ireturn, 1) := dk_ (by decide +kernel)
theorem dX6_put_15 : decode cX6_put 15 = .ok (.aload_n 0, 1) := dk_ (by decide +kernel)
theorem dX6_put_16 : decode cX6_put 16 = .ok (.invokevirtual 33, 3) := dk_ (by decide +kernel)
theorem dX6_put_19 : decode cX6_put 19 = .ok (.bipush 120, 2) := dk_ (by decide +kernel)
theorem dX6_put_21 : decode cX6_put 21 = .ok (.if_icmp .lt 5, 3) := dk_ (by decide +kernel)
theorem dX6_put_24 : decode cX6_put 24 = .ok (.iconst 0, 1) := dk_ (by decide +kernel)
theorem dX6_put_25 : decode cX6_put 25 = .ok (.ireturn, 1) := dk_ (by decide +kernel)
theorem dX6_put_26 : decode cX6_put 26 = .ok (.aload_n 1, 1) := dk_ (by decide +kernel)
theorem dX6_put_27 : decode cX6_put 27 = .ok (.iload_n 2, 1) := dk_ (by decide +kernel)
theorem dX6_put_28 : decode cX6_put 28 = .ok (.invokevirtual 37, 3) := dk_ (by decide +kernel)
theorem dX6_put_31 : decode cX6_put 31 = .ok (.iconst 1, 1) := dk_ (by decide +kernel)
theorem dX6_put_32 : decode cX6_put 32 = .ok (.ireturn, 1) := dk_ (by decide +kernel)
theorem dX6_drop_0 : decode cX6_drop 0 = .ok (.aload_n 0, 1) := dk_ (by decide +kernel)
theorem dX6_drop_1 : decode cX6_drop 1 = .ok (.getfield 11, 3) := dk_ (by decide +kernel)
theorem dX6_drop_4 : decode cX6_drop 4 = .ok (.iload_n 1, 1) := dk_ (by decide +kernel)
theorem dX6_drop_5 : decode cX6_drop 5 = .ok (.aaload, 1) := dk_ (by decide +kernel)
theorem dX6_drop_6 : decode cX6_drop 6 = .ok (.iconst 0, 1) := dk_ (by decide +kernel)
theorem dX6_drop_7 : decode cX6_drop 7 = .ok (.putfield 26, 3) := dk_ (by decide +kernel)
theorem dX6_drop_10 : decode cX6_drop 10 = .ok (.aload_n 0, 1) := dk_ (by decide +kernel)
theorem dX6_drop_11 : decode cX6_drop 11 = .ok (.getfield 11, 3) := dk_ (by decide +kernel)
theorem dX6_drop_14 : decode cX6_drop 14 = .ok (.iload_n 1, 1) := dk_ (by decide +kernel)
theorem dX6_drop_15 : decode cX6_drop 15 = .ok (.aaload, 1) := dk_ (by decide +kernel)
theorem dX6_drop_16 : decode cX6_drop 16 = .ok (.iload_n 1, 1) := dk_ (by decide +kernel)
theorem dX6_drop_17 : decode cX6_drop 17 = .ok (.ifCond .ne 7, 3) := dk_ (by decide +kernel)
theorem dX6_drop_20 : decode cX6_drop 20 = .ok (.iconst 1, 1) := dk_ (by decide +kernel)
theorem dX6_drop_21 : decode cX6_drop 21 = .ok (.goto 4, 3) := dk_ (by decide +kernel)
theorem dX6_drop_24 : decode cX6_drop 24 = .ok (.iconst 0, 1) := dk_ (by decide +kernel)
theorem dX6_drop_25 : decode cX6_drop 25 = .ok (.putfield 22, 3) := dk_ (by decide +kernel)
theorem dX6_drop_28 : decode cX6_drop 28 = .ok (.return_, 1) := dk_ (by decide +kernel)
theorem dX6_makeBlank_0 : decode cX6_makeBlank 0 = .ok (.aload_n 0, 1) := dk_ (by decide +kernel)
theorem dX6_makeBlank_1 : decode cX6_makeBlank 1 = .ok (.getfield 17, 3) := dk_ (by decide +kernel)
theorem dX6_makeBlank_4 : decode cX6_makeBlank 4 = .ok (.bipush 60, 2) := dk_ (by decide +kernel)
theorem dX6_makeBlank_6 : decode cX6_makeBlank 6 = .ok (.if_icmp .lt 5, 3) := dk_ (by decide +kernel)
theorem dX6_makeBlank_9 : decode cX6_makeBlank 9 = .ok (.iconst (-1), 1) := dk_ (by decide +kernel)
theorem dX6_makeBlank_10 : decode cX6_makeBlank 10 = .ok (.ireturn, 1) := dk_ (by decide +kernel)
theorem dX6_makeBlank_11 : decode cX6_makeBlank 11 = .ok (.aload_n 0, 1) := dk_ (by decide +kernel)
theorem dX6_makeBlank_12 : decode cX6_makeBlank 12 = .ok (.dup, 1) := dk_ (by decide +kernel)
theorem dX6_makeBlank_13 : decode cX6_makeBlank 13 = .ok (.getfield 17, 3) := dk_ (by decide +kernel)
theorem dX6_makeBlank_16 : decode cX6_makeBlank 16 = .ok (.iconst 1, 1) := dk_ (by decide +kernel)
theorem dX6_makeBlank_17 : decode cX6_makeBlank 17 = .ok (.iadd, 1) := dk_ (by decide +kernel)
theorem dX6_makeBlank_18 : decode cX6_makeBlank 18 = .ok (.putfield 17, 3) := dk_ (by decide +kernel)
theorem dX6_makeBlank_21 : decode cX6_makeBlank 21 = .ok (.bipush 100, 2) := dk_ (by decide +kernel)
theorem dX6_makeBlank_23 : decode cX6_makeBlank 23 = .ok (.aload_n 0, 1) := dk_ (by decide +kernel)
theorem dX6_makeBlank_24 : decode cX6_makeBlank 24 = .ok (.getfield 17, 3) := dk_ (by decide +kernel)
theorem dX6_makeBlank_27 : decode cX6_makeBlank 27 = .ok (.iadd, 1) := dk_ (by decide +kernel)
theorem dX6_makeBlank_28 : decode cX6_makeBlank 28 = .ok (.iconst 1, 1) := dk_ (by decide +kernel)
theorem dX6_makeBlank_29 : decode cX6_makeBlank 29 = .ok (.isub, 1) := dk_ (by decide +kernel)
theorem dX6_makeBlank_30 : decode cX6_makeBlank 30 = .ok (.ireturn, 1) := dk_ (by decide +kernel)
theorem dX6_become_0 : decode cX6_become 0 = .ok (.iconst 0, 1) := dk_ (by decide +kernel)
theorem dX6_become_1 : decode cX6_become 1 = .ok (.istore_n 2, 1) := dk_ (by decide +kernel)
theorem dX6_become_2 : decode cX6_become 2 = .ok (.iload_n 2, 1) := dk_ (by decide +kernel)
theorem dX6_become_3 : decode cX6_become 3 = .ok (.bipush 7, 2) := dk_ (by decide +kernel)
theorem dX6_become_5 : decode cX6_become 5 = .ok (.if_icmp .ge 24, 3) := dk_ (by decide +kernel)
theorem dX6_become_8 : decode cX6_become 8 = .ok (.aload_n 0, 1) := dk_ (by decide +kernel)
theorem dX6_become_9 : decode cX6_become 9 = .ok (.getfield 11, 3) := dk_ (by decide +kernel)
theorem dX6_become_12 : decode cX6_become 12 = .ok (.iload_n 2, 1) := dk_ (by decide +kernel)
theorem dX6_become_13 : decode cX6_become 13 = .ok (.aaload, 1) := dk_ (by decide +kernel)
theorem dX6_become_14 : decode cX6_become 14 = .ok (.aload_n 1, 1) := dk_ (by decide +kernel)
theorem dX6_become_15 : decode cX6_become 15 = .ok (.getfield 11, 3) := dk_ (by decide +kernel)
theorem dX6_become_18 : decode cX6_become 18 = .ok (.iload_n 2, 1) := dk_ (by decide +kernel)
theorem dX6_become_19 : decode cX6_become 19 = .ok (.aaload, 1) := dk_ (by decide +kernel)
theorem dX6_become_20 : decode cX6_become 20 = .ok (.invokevirtual 41, 3) := dk_ (by decide +kernel)
theorem dX6_become_23 : decode cX6_become 23 = .ok (.iinc 2 1, 3) := dk_ (by decide +kernel)
theorem dX6_become_26 : decode cX6_become 26 = .ok (.goto (-24), 3) := dk_ (by decide +kernel)
theorem dX6_become_29 : decode cX6_become 29 = .ok (.aload_n 0, 1) := dk_ (by decide +kernel)
theorem dX6_become_30 : decode cX6_become 30 = .ok (.aload_n 1, 1) := dk_ (by decide +kernel)
theorem dX6_become_31 : decode cX6_become 31 = .ok (.getfield 17, 3) := dk_ (by decide +kernel)
theorem dX6_become_34 : decode cX6_become 34 = .ok (.putfield 17, 3) := dk_ (by decide +kernel)
theorem dX6_become_37 : decode cX6_become 37 = .ok (.return_, 1) := dk_ (by decide +kernel)
theorem dX7_init_0 : decode cX7_init 0 = .ok (.aload_n 0, 1) := dk_ (by decide +kernel)
theorem dX7_init_1 : decode cX7_init 1 = .ok (.invokespecial 3, 3) := dk_ (by decide +kernel)
theorem dX7_init_4 : decode cX7_init 4 = .ok (.aload_n 0, 1) := dk_ (by decide +kernel)
theorem dX7_init_5 : decode cX7_init 5 = .ok (.new 9, 3) := dk_ (by decide +kernel)
theorem dX7_init_8 : decode cX7_init 8 = .ok (.dup, 1) := dk_ (by decide +kernel)
theorem dX7_init_9 : decode cX7_init 9 = .ok (.invokespecial 11, 3) := dk_ (by decide +kernel)
theorem dX7_init_12 : decode cX7_init 12 = .ok (.putfield 12, 3) := dk_ (by decide +kernel)
theorem dX7_init_15 : decode cX7_init 15 = .ok (.aload_n 0, 1) := dk_ (by decide +kernel)
theorem dX7_init_16 : decode cX7_init 16 = .ok (.iconst 4, 1) := dk_ (by decide +kernel)
theorem dX7_init_17 : decode cX7_init 17 = .ok (.anewarray 18, 3) := dk_ (by decide +kernel)
theorem dX7_init_20 : decode cX7_init 20 = .ok (.putfield 20, 3) := dk_ (by decide +kernel)
theorem dX7_init_23 : decode cX7_init 23 = .ok (.aload_n 0, 1) := dk_ (by decide +kernel)
theorem dX7_init_24 : decode cX7_init 24 = .ok (.new 24, 3) := dk_ (by decide +kernel)
theorem dX7_init_27 : decode cX7_init 27 = .ok (.dup, 1) := dk_ (by decide +kernel)
theorem dX7_init_28 : decode cX7_init 28 = .ok (.invokespecial 26, 3) := dk_ (by decide +kernel)
theorem dX7_init_31 : decode cX7_init 31 = .ok (.putfield 27, 3) := dk_ (by decide +kernel)
theorem dX7_init_34 : decode cX7_init 34 = .ok (.aload_n 0, 1) := dk_ (by decide +kernel)
theorem dX7_init_35 : decode cX7_init 35 = .ok (.iconst 4, 1) := dk_ (by decide +kernel)
theorem dX7_init_36 : decode cX7_init 36 = .ok (.newarray .int, 2) := dk_ (by decide +kernel)
theorem dX7_init_38 : decode cX7_init 38 = .ok (.putfield 31, 3) := dk_ (by decide +kernel)
theorem dX7_init_41 : decode cX7_init 41 = .ok (.aload_n 0, 1) := dk_ (by decide +kernel)
theorem dX7_init_42 : decode cX7_init 42 = .ok (.iconst 0, 1) := dk_ (by decide +kernel)
theorem dX7_init_43 : decode cX7_init 43 = .ok (.putfield 35, 3) := dk_ (by decide +kernel)
theorem dX7_init_46 : decode cX7_init 46 = .ok (.iconst 0, 1) := dk_ (by decide +kernel)
theorem dX7_init_47 : decode cX7_init 47 = .ok (.istore_n 1, 1) := dk_ (by decide +kernel)
theorem dX7_init_48 : decode cX7_init 48 = .ok (.iload_n 1, 1) := dk_ (by decide +kernel)
theorem dX7_init_49 : decode cX7_init 49 = .ok (.iconst 4, 1) := dk_ (by decide +kernel)
theorem dX7_init_50 : decode cX7_init 50 = .ok (.if_icmp .ge 22, 3) := dk_ (by decide +kernel)
theorem dX7_init_53 : decode cX7_init 53 = .ok (.aload_n 0, 1) := dk_ (by decide +kernel)
theorem dX7_init_54 : decode cX7_init 54 = .ok (.getfield 20, 3) := dk_ (by decide +kernel)
theorem dX7_init_57 : decode cX7_init 57 = .ok (.iload_n 1, 1) := dk_ (by decide +kernel)
theorem dX7_init_58 : decode cX7_init 58 = .ok (.new 18, 3) := dk_ (by decide +kernel)
theorem dX7_init_61 : decode cX7_init 61 = .ok (.dup, 1) := dk_ (by decide +kernel)
theorem dX7_init_62 : decode cX7_init 62 = .ok (.invokespecial 39, 3) := dk_ (by decide +kernel)
theorem dX7_init_65 : decode cX7_init 65 = .ok (.aastore, 1) := dk_ (by decide +kernel)
theorem dX7_init_66 : decode cX7_init 66 = .ok (.iinc 1 1, 3) := dk_ (by decide +kernel)
theorem dX7_init_69 : decode cX7_init 69 = .ok (.goto (-21), 3) := dk_ (by decide +kernel)
theorem dX7_init_72 : decode cX7_init 72 = .ok (.return_, 1) := dk_ (by decide +kernel)
theorem dX7_perform_0 : decode cX7_perform 0 = .ok (.aload_n 1, 1) := dk_ (by decide +kernel)
theorem dX7_perform_1 : decode cX7_perform 1 = .ok (.getfield 40, 3) := dk_ (by decide +kernel)
theorem dX7_perform_4 : decode cX7_perform 4 = .ok (.tableswitch 68 3 9 #[44, 50, 44, 56, 56, 56, 62], 44) := dk_ (by decide +kernel)
theorem dX7_perform_48 : decode cX7_perform 48 = .ok (.aload_n 0, 1) := dk_ (by decide +kernel)
theorem dX7_perform_49 : decode cX7_perform 49 = .ok (.aload_n 1, 1) := dk_ (by decide +kernel)
theorem dX7_perform_50 : decode cX7_perform 50 = .ok (.invokevirtual 45, 3) := dk_ (by decide +kernel)
theorem dX7_perform_53 : decode cX7_perform 53 = .ok (.ireturn, 1) := dk_ (by decide +kernel)
theorem dX7_perform_54 : decode cX7_perform 54 = .ok (.aload_n 0, 1) := dk_ (by decide +kernel)
theorem dX7_perform_55 : decode cX7_perform 55 = .ok (.aload_n 1, 1) := dk_ (by decide +kernel)
theorem dX7_perform_56 : decode cX7_perform 56 = .ok (.invokevirtual 49, 3) := dk_ (by decide +kernel)
theorem dX7_perform_59 : decode cX7_perform 59 = .ok (.ireturn, 1) := dk_ (by decide +kernel)
theorem dX7_perform_60 : decode cX7_perform 60 = .ok (.aload_n 0, 1) := dk_ (by decide +kernel)
theorem dX7_perform_61 : decode cX7_perform 61 = .ok (.aload_n 1, 1) := dk_ (by decide +kernel)
theorem dX7_perform_62 : decode cX7_perform 62 = .ok (.invokevirtual 52, 3) := dk_ (by decide +kernel)
theorem dX7_perform_65 : decode cX7_perform 65 = .ok (.ireturn, 1) := dk_ (by decide +kernel)
theorem dX7_perform_66 : decode cX7_perform 66 = .ok (.aload_n 0, 1) := dk_ (by decide +kernel)
theorem dX7_perform_67 : decode cX7_perform 67 = .ok (.aload_n 1, 1) := dk_ (by decide +kernel)
theorem dX7_perform_68 : decode cX7_perform 68 = .ok (.invokevirtual 55, 3) := dk_ (by decide +kernel)
theorem dX7_perform_71 : decode cX7_perform 71 = .ok (.ireturn, 1) := dk_ (by decide +kernel)
theorem dX7_perform_72 : decode cX7_perform 72 = .ok (.aload_n 0, 1) := dk_ (by decide +kernel)
theorem dX7_perform_73 : decode cX7_perform 73 = .ok (.aload_n 1, 1) := dk_ (by decide +kernel)
theorem dX7_perform_74 : decode cX7_perform 74 = .ok (.invokevirtual 58, 3) := dk_ (by decide +kernel)
theorem dX7_perform_77 : decode cX7_perform 77 = .ok (.ireturn, 1) := dk_ (by decide +kernel)
theorem dX7_takeAllFacts_0 : decode cX7_takeAllFacts 0 = .ok (.aload_n 1, 1) := dk_ (by decide +kernel)
theorem dX7_takeAllFacts_1 : decode cX7_takeAllFacts 1 = .ok (.getfield 61, 3) := dk_ (by decide +kernel)
theorem dX7_takeAllFacts_4 : decode cX7_takeAllFacts 4 = .ok (.invokestatic 64, 3) := dk_ (by decide +kernel)
theorem dX7_takeAllFacts_7 : decode cX7_takeAllFacts 7 = .ok (.istore_n 2, 1) := dk_ (by decide +kernel)
theorem dX7_takeAllFacts_8 : decode cX7_takeAllFacts 8 = .ok (.iload_n 2, 1) := dk_ (by decide +kernel)
theorem dX7_takeAllFacts_9 : decode cX7_takeAllFacts 9 = .ok (.ifCond .eq 23, 3) := dk_ (by decide +kernel)
theorem dX7_takeAllFacts_12 : decode cX7_takeAllFacts 12 = .ok (.aload_n 0, 1) := dk_ (by decide +kernel)
theorem dX7_takeAllFacts_13 : decode cX7_takeAllFacts 13 = .ok (.getfield 12, 3) := dk_ (by decide +kernel)
theorem dX7_takeAllFacts_16 : decode cX7_takeAllFacts 16 = .ok (.getfield 68, 3) := dk_ (by decide +kernel)
theorem dX7_takeAllFacts_19 : decode cX7_takeAllFacts 19 = .ok (.aload_n 1, 1) := dk_ (by decide +kernel)
theorem dX7_takeAllFacts_20 : decode cX7_takeAllFacts 20 = .ok (.getfield 61, 3) := dk_ (by decide +kernel)
theorem dX7_takeAllFacts_23 : decode cX7_takeAllFacts 23 = .ok (.aaload, 1) := dk_ (by decide +kernel)
theorem dX7_takeAllFacts_24 : decode cX7_takeAllFacts 24 = .ok (.getfield 72, 3) := dk_ (by decide +kernel)
theorem dX7_takeAllFacts_27 : decode cX7_takeAllFacts 27 = .ok (.ifCond .ne 5, 3) := dk_ (by decide +kernel)
theorem dX7_takeAllFacts_30 : decode cX7_takeAllFacts 30 = .ok (.iconst 2, 1) := dk_ (by decide +kernel)
theorem dX7_takeAllFacts_31 : decode cX7_takeAllFacts 31 = .ok (.ireturn, 1) := dk_ (by decide +kernel)
theorem dX7_takeAllFacts_32 : decode cX7_takeAllFacts 32 = .ok (.iload_n 2, 1) := dk_ (by decide +kernel)
theorem dX7_takeAllFacts_33 : decode cX7_takeAllFacts 33 = .ok (.ifCond .eq 10, 3) := dk_ (by decide +kernel)
theorem dX7_takeAllFacts_36 : decode cX7_takeAllFacts 36 = .ok (.aload_n 1, 1) := dk_ (by decide +kernel)
theorem dX7_takeAllFacts_37 : decode cX7_takeAllFacts 37 = .ok (.getfield 61, 3) := dk_ (by decide +kernel)
theorem dX7_takeAllFacts_40 : decode cX7_takeAllFacts 40 = .ok (.goto 16, 3) := dk_ (by decide +kernel)
theorem dX7_takeAllFacts_43 : decode cX7_takeAllFacts 43 = .ok (.aload_n 1, 1) := dk_ (by decide +kernel)
theorem dX7_takeAllFacts_44 : decode cX7_takeAllFacts 44 = .ok (.getfield 61, 3) := dk_ (by decide +kernel)
theorem dX7_takeAllFacts_47 : decode cX7_takeAllFacts 47 = .ok (.iconst (-1), 1) := dk_ (by decide +kernel)
theorem dX7_takeAllFacts_48 : decode cX7_takeAllFacts 48 = .ok (.if_icmp .ne 7, 3) := dk_ (by decide +kernel)
theorem dX7_takeAllFacts_51 : decode cX7_takeAllFacts 51 = .ok (.iconst 0, 1) := dk_ (by decide +kernel)
theorem dX7_takeAllFacts_52 : decode cX7_takeAllFacts 52 = .ok (.goto 4, 3) := dk_ (by decide +kernel)
theorem dX7_takeAllFacts_55 : decode cX7_takeAllFacts 55 = .ok (.iconst 1, 1) := dk_ (by decide +kernel)
theorem dX7_takeAllFacts_56 : decode cX7_takeAllFacts 56 = .ok (.istore_n 3, 1) := dk_ (by decide +kernel)
theorem dX7_takeAllFacts_57 : decode cX7_takeAllFacts 57 = .ok (.iload_n 2, 1) := dk_ (by decide +kernel)
theorem dX7_takeAllFacts_58 : decode cX7_takeAllFacts 58 = .ok (.ifCond .eq 10, 3) := dk_ (by decide +kernel)
theorem dX7_takeAllFacts_61 : decode cX7_takeAllFacts 61 = .ok (.aload_n 1, 1) := dk_ (by decide +kernel)
theorem dX7_takeAllFacts_62 : decode cX7_takeAllFacts 62 = .ok (.getfield 61, 3) := dk_ (by decide +kernel)
theorem dX7_takeAllFacts_65 : decode cX7_takeAllFacts 65 = .ok (.goto 5, 3) := dk_ (by decide +kernel)
theorem dX7_takeAllFacts_68 : decode cX7_takeAllFacts 68 = .ok (.bipush 6, 2) := dk_ (by decide +kernel)
theorem dX7_takeAllFacts_70 : decode cX7_takeAllFacts 70 = .ok (.istore 4, 2) := dk_ (by decide +kernel)
theorem dX7_takeAllFacts_72 : decode cX7_takeAllFacts 72 = .ok (.iload_n 3, 1) := dk_ (by decide +kernel)
theorem dX7_takeAllFacts_73 : decode cX7_takeAllFacts 73 = .ok (.istore 5, 2) := dk_ (by decide +kernel)
theorem dX7_takeAllFacts_75 : decode cX7_takeAllFacts 75 = .ok (.iload 5, 2) := dk_ (by decide +kernel)
theorem dX7_takeAllFacts_77 : decode cX7_takeAllFacts 77 = .ok (.iload 4, 2) := dk_ (by decide +kernel)
theorem dX7_takeAllFacts_79 : decode cX7_takeAllFacts 79 = .ok (.if_icmp .gt 43, 3) := dk_ (by decide +kernel)
theorem dX7_takeAllFacts_82 : decode cX7_takeAllFacts 82 = .ok (.aload_n 1, 1) := dk_ (by decide +kernel)
theorem dX7_takeAllFacts_83 : decode cX7_takeAllFacts 83 = .ok (.getfield 40, 3) := dk_ (by decide +kernel)
theorem dX7_takeAllFacts_86 : decode cX7_takeAllFacts 86 = .ok (.iconst 5, 1) := dk_ (by decide +kernel)
theorem dX7_takeAllFacts_87 : decode cX7_takeAllFacts 87 = .ok (.if_icmp .ne 15, 3) := dk_ (by decide +kernel)
theorem dX7_takeAllFacts_90 : decode cX7_takeAllFacts 90 = .ok (.aload_n 0, 1) := dk_ (by decide +kernel)
theorem dX7_takeAllFacts_91 : decode cX7_takeAllFacts 91 = .ok (.getfield 12, 3) := dk_ (by decide +kernel)
theorem dX7_takeAllFacts_94 : decode cX7_takeAllFacts 94 = .ok (.iload 5, 2) := dk_ (by decide +kernel)
theorem dX7_takeAllFacts_96 : decode cX7_takeAllFacts 96 = .ok (.invokevirtual 78, 3) := dk_ (by decide +kernel)
theorem dX7_takeAllFacts_99 : decode cX7_takeAllFacts 99 = .ok (.goto 17, 3) := dk_ (by decide +kernel)
theorem dX7_takeAllFacts_102 : decode cX7_takeAllFacts 102 = .ok (.aload_n 0, 1) := dk_ (by decide +kernel)
theorem dX7_takeAllFacts_103 : decode cX7_takeAllFacts 103 = .ok (.getfield 12, 3) := dk_ (by decide +kernel)
theorem dX7_takeAllFacts_106 : decode cX7_takeAllFacts 106 = .ok (.getfield 68, 3) := dk_ (by decide +kernel)
theorem dX7_takeAllFacts_109 : decode cX7_takeAllFacts 109 = .ok (.iload 5, 2) := dk_ (by decide +kernel)
theorem dX7_takeAllFacts_111 : decode cX7_takeAllFacts 111 = .ok (.aaload, 1) := dk_ (by decide +kernel)
theorem dX7_takeAllFacts_112 : decode cX7_takeAllFacts 112 = .ok (.iconst 0, 1) := dk_ (by decide +kernel)
theorem dX7_takeAllFacts_113 : decode cX7_takeAllFacts 113 = .ok (.putfield 82, 3) := dk_ (by decide +kernel)
theorem dX7_takeAllFacts_116 : decode cX7_takeAllFacts 116 = .ok (.iinc 5 1, 3) := dk_ (by decide +kernel)
theorem dX7_takeAllFacts_119 : decode cX7_takeAllFacts 119 = .ok (.goto (-44), 3) := dk_ (by decide +kernel)
theorem dX7_takeAllFacts_122 : decode cX7_takeAllFacts 122 = .ok (.iconst 0, 1) := dk_ (by decide +kernel)
theorem dX7_takeAllFacts_123 : decode cX7_takeAllFacts 123 = .ok (.ireturn, 1) := dk_ (by decide +kernel)
theorem dX7_makeGraph_0 : decode cX7_makeGraph 0 = .ok (.aload_n 0, 1) := dk_ (by decide +kernel)
theorem dX7_makeGraph_1 : decode cX7_makeGraph 1 = .ok (.getfield 12, 3) := dk_ (by decide +kernel)
theorem dX7_makeGraph_4 : decode cX7_makeGraph 4 = .ok (.getfield 68, 3) := dk_ (by decide +kernel)
theorem dX7_makeGraph_7 : decode cX7_makeGraph 7 = .ok (.aload_n 1, 1) := dk_ (by decide +kernel)
theorem dX7_makeGraph_8 : decode cX7_makeGraph 8 = .ok (.getfield 61, 3) := dk_ (by decide +kernel)
theorem dX7_makeGraph_11 : decode cX7_makeGraph 11 = .ok (.aaload, 1) := dk_ (by decide +kernel)
theorem dX7_makeGraph_12 : decode cX7_makeGraph 12 = .ok (.astore_n 2, 1) := dk_ (by decide +kernel)
theorem dX7_makeGraph_13 : decode cX7_makeGraph 13 = .ok (.aload_n 2, 1) := dk_ (by decide +kernel)
theorem dX7_makeGraph_14 : decode cX7_makeGraph 14 = .ok (.getfield 72, 3) := dk_ (by decide +kernel)
theorem dX7_makeGraph_17 : decode cX7_makeGraph 17 = .ok (.ifCond .eq 5, 3) := dk_ (by decide +kernel)
theorem dX7_makeGraph_20 : decode cX7_makeGraph 20 = .ok (.iconst 1, 1) := dk_ (by decide +kernel)
theorem dX7_makeGraph_21 : decode cX7_makeGraph 21 = .ok (.ireturn, 1) := dk_ (by decide +kernel)
theorem dX7_makeGraph_22 : decode cX7_makeGraph 22 = .ok (.aload_n 2, 1) := dk_ (by decide +kernel)
theorem dX7_makeGraph_23 : decode cX7_makeGraph 23 = .ok (.iconst 1, 1) := dk_ (by decide +kernel)
theorem dX7_makeGraph_24 : decode cX7_makeGraph 24 = .ok (.putfield 72, 3) := dk_ (by decide +kernel)
theorem dX7_makeGraph_27 : decode cX7_makeGraph 27 = .ok (.iconst 0, 1) := dk_ (by decide +kernel)
theorem dX7_makeGraph_28 : decode cX7_makeGraph 28 = .ok (.ireturn, 1) := dk_ (by decide +kernel)
theorem dX7_bringGraph_0 : decode cX7_bringGraph 0 = .ok (.aload_n 0, 1) := dk_ (by decide +kernel)
theorem dX7_bringGraph_1 : decode cX7_bringGraph 1 = .ok (.getfield 12, 3) := dk_ (by decide +kernel)
theorem dX7_bringGraph_4 : decode cX7_bringGraph 4 = .ok (.getfield 68, 3) := dk_ (by decide +kernel)
theorem dX7_bringGraph_7 : decode cX7_bringGraph 7 = .ok (.aload_n 1, 1) := dk_ (by decide +kernel)
theorem dX7_bringGraph_8 : decode cX7_bringGraph 8 = .ok (.getfield 85, 3) := dk_ (by decide +kernel)
theorem dX7_bringGraph_11 : decode cX7_bringGraph 11 = .ok (.aaload, 1) := dk_ (by decide +kernel)
theorem dX7_bringGraph_12 : decode cX7_bringGraph 12 = .ok (.astore_n 2, 1) := dk_ (by decide +kernel)
theorem dX7_bringGraph_13 : decode cX7_bringGraph 13 = .ok (.aload_n 0, 1) := dk_ (by decide +kernel)
theorem dX7_bringGraph_14 : decode cX7_bringGraph 14 = .ok (.getfield 12, 3) := dk_ (by decide +kernel)
theorem dX7_bringGraph_17 : decode cX7_bringGraph 17 = .ok (.getfield 68, 3) := dk_ (by decide +kernel)
theorem dX7_bringGraph_20 : decode cX7_bringGraph 20 = .ok (.aload_n 1, 1) := dk_ (by decide +kernel)
theorem dX7_bringGraph_21 : decode cX7_bringGraph 21 = .ok (.getfield 61, 3) := dk_ (by decide +kernel)
theorem dX7_bringGraph_24 : decode cX7_bringGraph 24 = .ok (.aaload, 1) := dk_ (by decide +kernel)
theorem dX7_bringGraph_25 : decode cX7_bringGraph 25 = .ok (.astore_n 3, 1) := dk_ (by decide +kernel)
theorem dX7_bringGraph_26 : decode cX7_bringGraph 26 = .ok (.aload_n 2, 1) := dk_ (by decide +kernel)
theorem dX7_bringGraph_27 : decode cX7_bringGraph 27 = .ok (.getfield 72, 3) := dk_ (by decide +kernel)
theorem dX7_bringGraph_30 : decode cX7_bringGraph 30 = .ok (.ifCond .ne 5, 3) := dk_ (by decide +kernel)
theorem dX7_bringGraph_33 : decode cX7_bringGraph 33 = .ok (.iconst 2, 1) := dk_ (by decide +kernel)
theorem dX7_bringGraph_34 : decode cX7_bringGraph 34 = .ok (.ireturn, 1) := dk_ (by decide +kernel)
theorem dX7_bringGraph_35 : decode cX7_bringGraph 35 = .ok (.aload_n 1, 1) := dk_ (by decide +kernel)
theorem dX7_bringGraph_36 : decode cX7_bringGraph 36 = .ok (.getfield 85, 3) := dk_ (by decide +kernel)
theorem dX7_bringGraph_39 : decode cX7_bringGraph 39 = .ok (.aload_n 1, 1) := dk_ (by decide +kernel)
theorem dX7_bringGraph_40 : decode cX7_bringGraph 40 = .ok (.getfield 61, 3) := dk_ (by decide +kernel)
theorem dX7_bringGraph_43 : decode cX7_bringGraph 43 = .ok (.if_icmp .ne 5, 3) := dk_ (by decide +kernel)
theorem dX7_bringGraph_46 : decode cX7_bringGraph 46 = .ok (.iconst 0, 1) := dk_ (by decide +kernel)
theorem dX7_bringGraph_47 : decode cX7_bringGraph 47 = .ok (.ireturn, 1) := dk_ (by decide +kernel)
theorem dX7_bringGraph_48 : decode cX7_bringGraph 48 = .ok (.aload_n 1, 1) := dk_ (by decide +kernel)
theorem dX7_bringGraph_49 : decode cX7_bringGraph 49 = .ok (.getfield 40, 3) := dk_ (by decide +kernel)
theorem dX7_bringGraph_52 : decode cX7_bringGraph 52 = .ok (.bipush 8, 2) := dk_ (by decide +kernel)
theorem dX7_bringGraph_54 : decode cX7_bringGraph 54 = .ok (.if_icmp .ne 10, 3) := dk_ (by decide +kernel)
theorem dX7_bringGraph_57 : decode cX7_bringGraph 57 = .ok (.aload_n 0, 1) := dk_ (by decide +kernel)
theorem dX7_bringGraph_58 : decode cX7_bringGraph 58 = .ok (.aload_n 2, 1) := dk_ (by decide +kernel)
theorem dX7_bringGraph_59 : decode cX7_bringGraph 59 = .ok (.aload_n 3, 1) := dk_ (by decide +kernel)
theorem dX7_bringGraph_60 : decode cX7_bringGraph 60 = .ok (.invokevirtual 88, 3) := dk_ (by decide +kernel)
theorem dX7_bringGraph_63 : decode cX7_bringGraph 63 = .ok (.ireturn, 1) := dk_ (by decide +kernel)
theorem dX7_bringGraph_64 : decode cX7_bringGraph 64 = .ok (.aload_n 3, 1) := dk_ (by decide +kernel)
theorem dX7_bringGraph_65 : decode cX7_bringGraph 65 = .ok (.iconst 0, 1) := dk_ (by decide +kernel)
theorem dX7_bringGraph_66 : decode cX7_bringGraph 66 = .ok (.putfield 82, 3) := dk_ (by decide +kernel)
theorem dX7_bringGraph_69 : decode cX7_bringGraph 69 = .ok (.aload_n 1, 1) := dk_ (by decide +kernel)
theorem dX7_bringGraph_70 : decode cX7_bringGraph 70 = .ok (.getfield 40, 3) := dk_ (by decide +kernel)
theorem dX7_bringGraph_73 : decode cX7_bringGraph 73 = .ok (.bipush 6, 2) := dk_ (by decide +kernel)
theorem dX7_bringGraph_75 : decode cX7_bringGraph 75 = .ok (.if_icmp .ne 22, 3) := dk_ (by decide +kernel)
theorem dX7_bringGraph_78 : decode cX7_bringGraph 78 = .ok (.aload_n 0, 1) := dk_ (by decide +kernel)
theorem dX7_bringGraph_79 : decode cX7_bringGraph 79 = .ok (.getfield 12, 3) := dk_ (by decide +kernel)
theorem dX7_bringGraph_82 : decode cX7_bringGraph 82 = .ok (.invokevirtual 92, 3) := dk_ (by decide +kernel)
theorem dX7_bringGraph_85 : decode cX7_bringGraph 85 = .ok (.aload_n 2, 1) := dk_ (by decide +kernel)
theorem dX7_bringGraph_86 : decode cX7_bringGraph 86 = .ok (.getfield 82, 3) := dk_ (by decide +kernel)
theorem dX7_bringGraph_89 : decode cX7_bringGraph 89 = .ok (.iadd, 1) := dk_ (by decide +kernel)
theorem dX7_bringGraph_90 : decode cX7_bringGraph 90 = .ok (.bipush 120, 2) := dk_ (by decide +kernel)
theorem dX7_bringGraph_92 : decode cX7_bringGraph 92 = .ok (.if_icmp .le 5, 3) := dk_ (by decide +kernel)
theorem dX7_bringGraph_95 : decode cX7_bringGraph 95 = .ok (.iconst 4, 1) := dk_ (by decide +kernel)
theorem dX7_bringGraph_96 : decode cX7_bringGraph 96 = .ok (.ireturn, 1) := dk_ (by decide +kernel)
theorem dX7_bringGraph_97 : decode cX7_bringGraph 97 = .ok (.aload_n 3, 1) := dk_ (by decide +kernel)
theorem dX7_bringGraph_98 : decode cX7_bringGraph 98 = .ok (.aload_n 2, 1) := dk_ (by decide +kernel)
theorem dX7_bringGraph_99 : decode cX7_bringGraph 99 = .ok (.invokevirtual 96, 3) := dk_ (by decide +kernel)
theorem dX7_bringGraph_102 : decode cX7_bringGraph 102 = .ok (.aload_n 1, 1) := dk_ (by decide +kernel)
theorem dX7_bringGraph_103 : decode cX7_bringGraph 103 = .ok (.getfield 40, 3) := dk_ (by decide +kernel)
theorem dX7_bringGraph_106 : decode cX7_bringGraph 106 = .ok (.bipush 7, 2) := dk_ (by decide +kernel)
theorem dX7_bringGraph_108 : decode cX7_bringGraph 108 = .ok (.if_icmp .ne 14, 3) := dk_ (by decide +kernel)
theorem dX7_bringGraph_111 : decode cX7_bringGraph 111 = .ok (.aload_n 0, 1) := dk_ (by decide +kernel)
theorem dX7_bringGraph_112 : decode cX7_bringGraph 112 = .ok (.getfield 12, 3) := dk_ (by decide +kernel)
theorem dX7_bringGraph_115 : decode cX7_bringGraph 115 = .ok (.aload_n 1, 1) := dk_ (by decide +kernel)
theorem dX7_bringGraph_116 : decode cX7_bringGraph 116 = .ok (.getfield 85, 3) := dk_ (by decide +kernel)
theorem dX7_bringGraph_119 : decode cX7_bringGraph 119 = .ok (.invokevirtual 78, 3) := dk_ (by decide +kernel)
theorem dX7_bringGraph_122 : decode cX7_bringGraph 122 = .ok (.iconst 0, 1) := dk_ (by decide +kernel)
theorem dX7_bringGraph_123 : decode cX7_bringGraph 123 = .ok (.ireturn, 1) := dk_ (by decide +kernel)
theorem dX7_addGraph_0 : decode cX7_addGraph 0 = .ok (.aload_n 2, 1) := dk_ (by decide +kernel)
theorem dX7_addGraph_1 : decode cX7_addGraph 1 = .ok (.iconst 1, 1) := dk_ (by decide +kernel)
theorem dX7_addGraph_2 : decode cX7_addGraph 2 = .ok (.putfield 72, 3) := dk_ (by decide +kernel)
theorem dX7_addGraph_5 : decode cX7_addGraph 5 = .ok (.iconst 0, 1) := dk_ (by decide +kernel)
theorem dX7_addGraph_6 : decode cX7_addGraph 6 = .ok (.istore_n 3, 1) := dk_ (by decide +kernel)
theorem dX7_addGraph_7 : decode cX7_addGraph 7 = .ok (.iload_n 3, 1) := dk_ (by decide +kernel)
theorem dX7_addGraph_8 : decode cX7_addGraph 8 = .ok (.aload_n 1, 1) := dk_ (by decide +kernel)
theorem dX7_addGraph_9 : decode cX7_addGraph 9 = .ok (.getfield 82, 3) := dk_ (by decide +kernel)
theorem dX7_addGraph_12 : decode cX7_addGraph 12 = .ok (.if_icmp .ge 28, 3) := dk_ (by decide +kernel)
theorem dX7_addGraph_15 : decode cX7_addGraph 15 = .ok (.aload_n 0, 1) := dk_ (by decide +kernel)
theorem dX7_addGraph_16 : decode cX7_addGraph 16 = .ok (.getfield 12, 3) := dk_ (by decide +kernel)
theorem dX7_addGraph_19 : decode cX7_addGraph 19 = .ok (.aload_n 2, 1) := dk_ (by decide +kernel)
theorem dX7_addGraph_20 : decode cX7_addGraph 20 = .ok (.aload_n 1, 1) := dk_ (by decide +kernel)
theorem dX7_addGraph_21 : decode cX7_addGraph 21 = .ok (.getfield 100, 3) := dk_ (by decide +kernel)
theorem dX7_addGraph_24 : decode cX7_addGraph 24 = .ok (.iload_n 3, 1) := dk_ (by decide +kernel)
theorem dX7_addGraph_25 : decode cX7_addGraph 25 = .ok (.iaload, 1) := dk_ (by decide +kernel)
theorem dX7_addGraph_26 : decode cX7_addGraph 26 = .ok (.invokevirtual 103, 3) := dk_ (by decide +kernel)
theorem dX7_addGraph_29 : decode cX7_addGraph 29 = .ok (.ifCond .ne 5, 3) := dk_ (by decide +kernel)
theorem dX7_addGraph_32 : decode cX7_addGraph 32 = .ok (.iconst 4, 1) := dk_ (by decide +kernel)
theorem dX7_addGraph_33 : decode cX7_addGraph 33 = .ok (.ireturn, 1) := dk_ (by decide +kernel)
theorem dX7_addGraph_34 : decode cX7_addGraph 34 = .ok (.iinc 3 1, 3) := dk_ (by decide +kernel)
theorem dX7_addGraph_37 : decode cX7_addGraph 37 = .ok (.goto (-30), 3) := dk_ (by decide +kernel)
theorem dX7_addGraph_40 : decode cX7_addGraph 40 = .ok (.iconst 0, 1) := dk_ (by decide +kernel)
theorem dX7_addGraph_41 : decode cX7_addGraph 41 = .ok (.ireturn, 1) := dk_ (by decide +kernel)
theorem dX7_readFile_0 : decode cX7_readFile 0 = .ok (.aload_n 0, 1) := dk_ (by decide +kernel)
theorem dX7_readFile_1 : decode cX7_readFile 1 = .ok (.getfield 20, 3) := dk_ (by decide +kernel)
theorem dX7_readFile_4 : decode cX7_readFile 4 = .ok (.aload_n 1, 1) := dk_ (by decide +kernel)
theorem dX7_readFile_5 : decode cX7_readFile 5 = .ok (.getfield 85, 3) := dk_ (by decide +kernel)
theorem dX7_readFile_8 : decode cX7_readFile 8 = .ok (.aaload, 1) := dk_ (by decide +kernel)
theorem dX7_readFile_9 : decode cX7_readFile 9 = .ok (.astore_n 2, 1) := dk_ (by decide +kernel)
theorem dX7_readFile_10 : decode cX7_readFile 10 = .ok (.aload_n 2, 1) := dk_ (by decide +kernel)
theorem dX7_readFile_11 : decode cX7_readFile 11 = .ok (.getfield 107, 3) := dk_ (by decide +kernel)
theorem dX7_readFile_14 : decode cX7_readFile 14 = .ok (.ifCond .eq 5, 3) := dk_ (by decide +kernel)
theorem dX7_readFile_17 : decode cX7_readFile 17 = .ok (.iconst 3, 1) := dk_ (by decide +kernel)
theorem dX7_readFile_18 : decode cX7_readFile 18 = .ok (.ireturn, 1) := dk_ (by decide +kernel)
theorem dX7_readFile_19 : decode cX7_readFile 19 = .ok (.aload_n 0, 1) := dk_ (by decide +kernel)
theorem dX7_readFile_20 : decode cX7_readFile 20 = .ok (.getfield 12, 3) := dk_ (by decide +kernel)
theorem dX7_readFile_23 : decode cX7_readFile 23 = .ok (.getfield 68, 3) := dk_ (by decide +kernel)
theorem dX7_readFile_26 : decode cX7_readFile 26 = .ok (.aload_n 1, 1) := dk_ (by decide +kernel)
theorem dX7_readFile_27 : decode cX7_readFile 27 = .ok (.getfield 61, 3) := dk_ (by decide +kernel)
theorem dX7_readFile_30 : decode cX7_readFile 30 = .ok (.aaload, 1) := dk_ (by decide +kernel)
theorem dX7_readFile_31 : decode cX7_readFile 31 = .ok (.astore_n 3, 1) := dk_ (by decide +kernel)
theorem dX7_readFile_32 : decode cX7_readFile 32 = .ok (.aload_n 3, 1) := dk_ (by decide +kernel)
theorem dX7_readFile_33 : decode cX7_readFile 33 = .ok (.iconst 1, 1) := dk_ (by decide +kernel)
theorem dX7_readFile_34 : decode cX7_readFile 34 = .ok (.putfield 72, 3) := dk_ (by decide +kernel)
theorem dX7_readFile_37 : decode cX7_readFile 37 = .ok (.iconst 0, 1) := dk_ (by decide +kernel)
theorem dX7_readFile_38 : decode cX7_readFile 38 = .ok (.istore 4, 2) := dk_ (by decide +kernel)
theorem dX7_readFile_40 : decode cX7_readFile 40 = .ok (.iload 4, 2) := dk_ (by decide +kernel)
theorem dX7_readFile_42 : decode cX7_readFile 42 = .ok (.aload_n 2, 1) := dk_ (by decide +kernel)
theorem dX7_readFile_43 : decode cX7_readFile 43 = .ok (.getfield 110, 3) := dk_ (by decide +kernel)
theorem dX7_readFile_46 : decode cX7_readFile 46 = .ok (.getfield 114, 3) := dk_ (by decide +kernel)
theorem dX7_readFile_49 : decode cX7_readFile 49 = .ok (.if_icmp .ge 52, 3) := dk_ (by decide +kernel)
theorem dX7_readFile_52 : decode cX7_readFile 52 = .ok (.aload_n 0, 1) := dk_ (by decide +kernel)
theorem dX7_readFile_53 : decode cX7_readFile 53 = .ok (.getfield 12, 3) := dk_ (by decide +kernel)
theorem dX7_readFile_56 : decode cX7_readFile 56 = .ok (.aload_n 3, 1) := dk_ (by decide +kernel)
theorem dX7_readFile_57 : decode cX7_readFile 57 = .ok (.aload_n 2, 1) := dk_ (by decide +kernel)
theorem dX7_readFile_58 : decode cX7_readFile 58 = .ok (.getfield 110, 3) := dk_ (by decide +kernel)
theorem dX7_readFile_61 : decode cX7_readFile 61 = .ok (.iload 4, 2) := dk_ (by decide +kernel)
theorem dX7_readFile_63 : decode cX7_readFile 63 = .ok (.invokevirtual 119, 3) := dk_ (by decide +kernel)
theorem dX7_readFile_66 : decode cX7_readFile 66 = .ok (.aload_n 2, 1) := dk_ (by decide +kernel)
theorem dX7_readFile_67 : decode cX7_readFile 67 = .ok (.getfield 110, 3) := dk_ (by decide +kernel)
theorem dX7_readFile_70 : decode cX7_readFile 70 = .ok (.iload 4, 2) := dk_ (by decide +kernel)
theorem dX7_readFile_72 : decode cX7_readFile 72 = .ok (.invokevirtual 123, 3) := dk_ (by decide +kernel)
theorem dX7_readFile_75 : decode cX7_readFile 75 = .ok (.aload_n 2, 1) := dk_ (by decide +kernel)
theorem dX7_readFile_76 : decode cX7_readFile 76 = .ok (.getfield 110, 3) := dk_ (by decide +kernel)
theorem dX7_readFile_79 : decode cX7_readFile 79 = .ok (.iload 4, 2) := dk_ (by decide +kernel)
theorem dX7_readFile_81 : decode cX7_readFile 81 = .ok (.invokevirtual 126, 3) := dk_ (by decide +kernel)
theorem dX7_readFile_84 : decode cX7_readFile 84 = .ok (.invokestatic 129, 3) := dk_ (by decide +kernel)
theorem dX7_readFile_87 : decode cX7_readFile 87 = .ok (.invokevirtual 103, 3) := dk_ (by decide +kernel)
theorem dX7_readFile_90 : decode cX7_readFile 90 = .ok (.ifCond .ne 5, 3) := dk_ (by decide +kernel)
theorem dX7_readFile_93 : decode cX7_readFile 93 = .ok (.iconst 4, 1) := dk_ (by decide +kernel)
theorem dX7_readFile_94 : decode cX7_readFile 94 = .ok (.ireturn, 1) := dk_ (by decide +kernel)
theorem dX7_readFile_95 : decode cX7_readFile 95 = .ok (.iinc 4 1, 3) := dk_ (by decide +kernel)
theorem dX7_readFile_98 : decode cX7_readFile 98 = .ok (.goto (-58), 3) := dk_ (by decide +kernel)
theorem dX7_readFile_101 : decode cX7_readFile 101 = .ok (.iconst 0, 1) := dk_ (by decide +kernel)
theorem dX7_readFile_102 : decode cX7_readFile 102 = .ok (.ireturn, 1) := dk_ (by decide +kernel)
theorem dX7_rewrite_0 : decode cX7_rewrite 0 = .ok (.aload_n 0, 1) := dk_ (by decide +kernel)
theorem dX7_rewrite_1 : decode cX7_rewrite 1 = .ok (.getfield 27, 3) := dk_ (by decide +kernel)
theorem dX7_rewrite_4 : decode cX7_rewrite 4 = .ok (.aload_n 1, 1) := dk_ (by decide +kernel)
theorem dX7_rewrite_5 : decode cX7_rewrite 5 = .ok (.getfield 133, 3) := dk_ (by decide +kernel)
theorem dX7_rewrite_8 : decode cX7_rewrite 8 = .ok (.aload_n 0, 1) := dk_ (by decide +kernel)
theorem dX7_rewrite_9 : decode cX7_rewrite 9 = .ok (.getfield 12, 3) := dk_ (by decide +kernel)
theorem dX7_rewrite_12 : decode cX7_rewrite 12 = .ok (.getfield 68, 3) := dk_ (by decide +kernel)
theorem dX7_rewrite_15 : decode cX7_rewrite 15 = .ok (.aload_n 1, 1) := dk_ (by decide +kernel)
theorem dX7_rewrite_16 : decode cX7_rewrite 16 = .ok (.getfield 85, 3) := dk_ (by decide +kernel)
theorem dX7_rewrite_19 : decode cX7_rewrite 19 = .ok (.aaload, 1) := dk_ (by decide +kernel)
theorem dX7_rewrite_20 : decode cX7_rewrite 20 = .ok (.invokevirtual 136, 3) := dk_ (by decide +kernel)
theorem dX7_rewrite_23 : decode cX7_rewrite 23 = .ok (.istore_n 2, 1) := dk_ (by decide +kernel)
theorem dX7_rewrite_24 : decode cX7_rewrite 24 = .ok (.aload_n 0, 1) := dk_ (by decide +kernel)
theorem dX7_rewrite_25 : decode cX7_rewrite 25 = .ok (.dup, 1) := dk_ (by decide +kernel)
theorem dX7_rewrite_26 : decode cX7_rewrite 26 = .ok (.getfield 35, 3) := dk_ (by decide +kernel)
theorem dX7_rewrite_29 : decode cX7_rewrite 29 = .ok (.aload_n 0, 1) := dk_ (by decide +kernel)
theorem dX7_rewrite_30 : decode cX7_rewrite 30 = .ok (.getfield 27, 3) := dk_ (by decide +kernel)
theorem dX7_rewrite_33 : decode cX7_rewrite 33 = .ok (.getfield 140, 3) := dk_ (by decide +kernel)
theorem dX7_rewrite_36 : decode cX7_rewrite 36 = .ok (.iadd, 1) := dk_ (by decide +kernel)
theorem dX7_rewrite_37 : decode cX7_rewrite 37 = .ok (.putfield 35, 3) := dk_ (by decide +kernel)
theorem dX7_rewrite_40 : decode cX7_rewrite 40 = .ok (.aload_n 1, 1) := dk_ (by decide +kernel)
theorem dX7_rewrite_41 : decode cX7_rewrite 41 = .ok (.getfield 40, 3) := dk_ (by decide +kernel)
theorem dX7_rewrite_44 : decode cX7_rewrite 44 = .ok (.iconst 2, 1) := dk_ (by decide +kernel)
theorem dX7_rewrite_45 : decode cX7_rewrite 45 = .ok (.if_icmp .ne 14, 3) := dk_ (by decide +kernel)
theorem dX7_rewrite_48 : decode cX7_rewrite 48 = .ok (.aload_n 1, 1) := dk_ (by decide +kernel)
theorem dX7_rewrite_49 : decode cX7_rewrite 49 = .ok (.aload_n 0, 1) := dk_ (by decide +kernel)
theorem dX7_rewrite_50 : decode cX7_rewrite 50 = .ok (.getfield 27, 3) := dk_ (by decide +kernel)
theorem dX7_rewrite_53 : decode cX7_rewrite 53 = .ok (.getfield 141, 3) := dk_ (by decide +kernel)
theorem dX7_rewrite_56 : decode cX7_rewrite 56 = .ok (.putfield 144, 3) := dk_ (by decide +kernel)
theorem dX7_rewrite_59 : decode cX7_rewrite 59 = .ok (.iload_n 2, 1) := dk_ (by decide +kernel)
theorem dX7_rewrite_60 : decode cX7_rewrite 60 = .ok (.ifCond .ne 5, 3) := dk_ (by decide +kernel)
theorem dX7_rewrite_63 : decode cX7_rewrite 63 = .ok (.iconst 5, 1) := dk_ (by decide +kernel)
theorem dX7_rewrite_64 : decode cX7_rewrite 64 = .ok (.ireturn, 1) := dk_ (by decide +kernel)
theorem dX7_rewrite_65 : decode cX7_rewrite 65 = .ok (.iconst 0, 1) := dk_ (by decide +kernel)
theorem dX7_rewrite_66 : decode cX7_rewrite 66 = .ok (.istore_n 3, 1) := dk_ (by decide +kernel)
theorem dX7_rewrite_67 : decode cX7_rewrite 67 = .ok (.iload_n 3, 1) := dk_ (by decide +kernel)
theorem dX7_rewrite_68 : decode cX7_rewrite 68 = .ok (.aload_n 0, 1) := dk_ (by decide +kernel)
theorem dX7_rewrite_69 : decode cX7_rewrite 69 = .ok (.getfield 27, 3) := dk_ (by decide +kernel)
theorem dX7_rewrite_72 : decode cX7_rewrite 72 = .ok (.getfield 141, 3) := dk_ (by decide +kernel)
theorem dX7_rewrite_75 : decode cX7_rewrite 75 = .ok (.if_icmp .ge 15, 3) := dk_ (by decide +kernel)
theorem dX7_rewrite_78 : decode cX7_rewrite 78 = .ok (.aload_n 0, 1) := dk_ (by decide +kernel)
theorem dX7_rewrite_79 : decode cX7_rewrite 79 = .ok (.aload_n 1, 1) := dk_ (by decide +kernel)
theorem dX7_rewrite_80 : decode cX7_rewrite 80 = .ok (.iload_n 3, 1) := dk_ (by decide +kernel)
theorem dX7_rewrite_81 : decode cX7_rewrite 81 = .ok (.invokevirtual 145, 3) := dk_ (by decide +kernel)
theorem dX7_rewrite_84 : decode cX7_rewrite 84 = .ok (.iinc 3 1, 3) := dk_ (by decide +kernel)
theorem dX7_rewrite_87 : decode cX7_rewrite 87 = .ok (.goto (-20), 3) := dk_ (by decide +kernel)
theorem dX7_rewrite_90 : decode cX7_rewrite 90 = .ok (.iconst 0, 1) := dk_ (by decide +kernel)
theorem dX7_rewrite_91 : decode cX7_rewrite 91 = .ok (.istore_n 3, 1) := dk_ (by decide +kernel)
theorem dX7_rewrite_92 : decode cX7_rewrite 92 = .ok (.iload_n 3, 1) := dk_ (by decide +kernel)
theorem dX7_rewrite_93 : decode cX7_rewrite 93 = .ok (.aload_n 0, 1) := dk_ (by decide +kernel)
theorem dX7_rewrite_94 : decode cX7_rewrite 94 = .ok (.getfield 27, 3) := dk_ (by decide +kernel)
theorem dX7_rewrite_97 : decode cX7_rewrite 97 = .ok (.getfield 141, 3) := dk_ (by decide +kernel)
theorem dX7_rewrite_100 : decode cX7_rewrite 100 = .ok (.if_icmp .ge 20, 3) := dk_ (by decide +kernel)
theorem dX7_rewrite_103 : decode cX7_rewrite 103 = .ok (.aload_n 0, 1) := dk_ (by decide +kernel)
theorem dX7_rewrite_104 : decode cX7_rewrite 104 = .ok (.aload_n 1, 1) := dk_ (by decide +kernel)
theorem dX7_rewrite_105 : decode cX7_rewrite 105 = .ok (.iload_n 3, 1) := dk_ (by decide +kernel)
theorem dX7_rewrite_106 : decode cX7_rewrite 106 = .ok (.invokevirtual 149, 3) := dk_ (by decide +kernel)
theorem dX7_rewrite_109 : decode cX7_rewrite 109 = .ok (.ifCond .ne 5, 3) := dk_ (by decide +kernel)
theorem dX7_rewrite_112 : decode cX7_rewrite 112 = .ok (.iconst 4, 1) := dk_ (by decide +kernel)
theorem dX7_rewrite_113 : decode cX7_rewrite 113 = .ok (.ireturn, 1) := dk_ (by decide +kernel)
theorem dX7_rewrite_114 : decode cX7_rewrite 114 = .ok (.iinc 3 1, 3) := dk_ (by decide +kernel)
theorem dX7_rewrite_117 : decode cX7_rewrite 117 = .ok (.goto (-25), 3) := dk_ (by decide +kernel)
theorem dX7_rewrite_120 : decode cX7_rewrite 120 = .ok (.iconst 0, 1) := dk_ (by decide +kernel)
theorem dX7_rewrite_121 : decode cX7_rewrite 121 = .ok (.ireturn, 1) := dk_ (by decide +kernel)
theorem dX7_takeAwayFor_0 : decode cX7_takeAwayFor 0 = .ok (.iconst 0, 1) := dk_ (by decide +kernel)
theorem dX7_takeAwayFor_1 : decode cX7_takeAwayFor 1 = .ok (.istore_n 3, 1) := dk_ (by decide +kernel)
theorem dX7_takeAwayFor_2 : decode cX7_takeAwayFor 2 = .ok (.iload_n 3, 1) := dk_ (by decide +kernel)
theorem dX7_takeAwayFor_3 : decode cX7_takeAwayFor 3 = .ok (.aload_n 1, 1) := dk_ (by decide +kernel)
theorem dX7_takeAwayFor_4 : decode cX7_takeAwayFor 4 = .ok (.getfield 153, 3) := dk_ (by decide +kernel)
theorem dX7_takeAwayFor_7 : decode cX7_takeAwayFor 7 = .ok (.getfield 114, 3) := dk_ (by decide +kernel)
theorem dX7_takeAwayFor_10 : decode cX7_takeAwayFor 10 = .ok (.if_icmp .ge 26, 3) := dk_ (by decide +kernel)
theorem dX7_takeAwayFor_13 : decode cX7_takeAwayFor 13 = .ok (.aload_n 1, 1) := dk_ (by decide +kernel)
theorem dX7_takeAwayFor_14 : decode cX7_takeAwayFor 14 = .ok (.getfield 156, 3) := dk_ (by decide +kernel)
theorem dX7_takeAwayFor_17 : decode cX7_takeAwayFor 17 = .ok (.iload_n 3, 1) := dk_ (by decide +kernel)
theorem dX7_takeAwayFor_18 : decode cX7_takeAwayFor 18 = .ok (.baload, 1) := dk_ (by decide +kernel)
theorem dX7_takeAwayFor_19 : decode cX7_takeAwayFor 19 = .ok (.ifCond .ne 11, 3) := dk_ (by decide +kernel)
theorem dX7_takeAwayFor_22 : decode cX7_takeAwayFor 22 = .ok (.aload_n 0, 1) := dk_ (by decide +kernel)
theorem dX7_takeAwayFor_23 : decode cX7_takeAwayFor 23 = .ok (.aload_n 1, 1) := dk_ (by decide +kernel)
theorem dX7_takeAwayFor_24 : decode cX7_takeAwayFor 24 = .ok (.iload_n 3, 1) := dk_ (by decide +kernel)
theorem dX7_takeAwayFor_25 : decode cX7_takeAwayFor 25 = .ok (.iload_n 2, 1) := dk_ (by decide +kernel)
theorem dX7_takeAwayFor_26 : decode cX7_takeAwayFor 26 = .ok (.invokevirtual 160, 3) := dk_ (by decide +kernel)
theorem dX7_takeAwayFor_29 : decode cX7_takeAwayFor 29 = .ok (.pop, 1) := dk_ (by decide +kernel)
theorem dX7_takeAwayFor_30 : decode cX7_takeAwayFor 30 = .ok (.iinc 3 1, 3) := dk_ (by decide +kernel)
theorem dX7_takeAwayFor_33 : decode cX7_takeAwayFor 33 = .ok (.goto (-31), 3) := dk_ (by decide +kernel)
theorem dX7_takeAwayFor_36 : decode cX7_takeAwayFor 36 = .ok (.return_, 1) := dk_ (by decide +kernel)
theorem dX7_addFor_0 : decode cX7_addFor 0 = .ok (.aload_n 0, 1) := dk_ (by decide +kernel)
theorem dX7_addFor_1 : decode cX7_addFor 1 = .ok (.getfield 31, 3) := dk_ (by decide +kernel)
theorem dX7_addFor_4 : decode cX7_addFor 4 = .ok (.iconst (-1), 1) := dk_ (by decide +kernel)
theorem dX7_addFor_5 : decode cX7_addFor 5 = .ok (.invokestatic 164, 3) := dk_ (by decide +kernel)
theorem dX7_addFor_8 : decode cX7_addFor 8 = .ok (.iconst 1, 1) := dk_ (by decide +kernel)
theorem dX7_addFor_9 : decode cX7_addFor 9 = .ok (.istore_n 3, 1) := dk_ (by decide +kernel)
theorem dX7_addFor_10 : decode cX7_addFor 10 = .ok (.iconst 0, 1) := dk_ (by decide +kernel)
theorem dX7_addFor_11 : decode cX7_addFor 11 = .ok (.istore 4, 2) := dk_ (by decide +kernel)
theorem dX7_addFor_13 : decode cX7_addFor 13 = .ok (.iload 4, 2) := dk_ (by decide +kernel)
theorem dX7_addFor_15 : decode cX7_addFor 15 = .ok (.aload_n 1, 1) := dk_ (by decide +kernel)
theorem dX7_addFor_16 : decode cX7_addFor 16 = .ok (.getfield 153, 3) := dk_ (by decide +kernel)
theorem dX7_addFor_19 : decode cX7_addFor 19 = .ok (.getfield 114, 3) := dk_ (by decide +kernel)
theorem dX7_addFor_22 : decode cX7_addFor 22 = .ok (.if_icmp .ge 40, 3) := dk_ (by decide +kernel)
theorem dX7_addFor_25 : decode cX7_addFor 25 = .ok (.iload_n 3, 1) := dk_ (by decide +kernel)
theorem dX7_addFor_26 : decode cX7_addFor 26 = .ok (.ifCond .eq 36, 3) := dk_ (by decide +kernel)
theorem dX7_addFor_29 : decode cX7_addFor 29 = .ok (.aload_n 1, 1) := dk_ (by decide +kernel)
theorem dX7_addFor_30 : decode cX7_addFor 30 = .ok (.getfield 156, 3) := dk_ (by decide +kernel)
theorem dX7_addFor_33 : decode cX7_addFor 33 = .ok (.iload 4, 2) := dk_ (by decide +kernel)
theorem dX7_addFor_35 : decode cX7_addFor 35 = .ok (.baload, 1) := dk_ (by decide +kernel)
theorem dX7_addFor_36 : decode cX7_addFor 36 = .ok (.ifCond .eq 14, 3) := dk_ (by decide +kernel)
theorem dX7_addFor_39 : decode cX7_addFor 39 = .ok (.aload_n 0, 1) := dk_ (by decide +kernel)
theorem dX7_addFor_40 : decode cX7_addFor 40 = .ok (.aload_n 1, 1) := dk_ (by decide +kernel)
theorem dX7_addFor_41 : decode cX7_addFor 41 = .ok (.iload 4, 2) := dk_ (by decide +kernel)
theorem dX7_addFor_43 : decode cX7_addFor 43 = .ok (.iload_n 2, 1) := dk_ (by decide +kernel)
theorem dX7_addFor_44 : decode cX7_addFor 44 = .ok (.invokevirtual 160, 3) := dk_ (by decide +kernel)
theorem dX7_addFor_47 : decode cX7_addFor 47 = .ok (.ifCond .eq 7, 3) := dk_ (by decide +kernel)
theorem dX7_addFor_50 : decode cX7_addFor 50 = .ok (.iconst 1, 1) := dk_ (by decide +kernel)
theorem dX7_addFor_51 : decode cX7_addFor 51 = .ok (.goto 4, 3) := dk_ (by decide +kernel)
theorem dX7_addFor_54 : decode cX7_addFor 54 = .ok (.iconst 0, 1) := dk_ (by decide +kernel)
theorem dX7_addFor_55 : decode cX7_addFor 55 = .ok (.istore_n 3, 1) := dk_ (by decide +kernel)
theorem dX7_addFor_56 : decode cX7_addFor 56 = .ok (.iinc 4 1, 3) := dk_ (by decide +kernel)
theorem dX7_addFor_59 : decode cX7_addFor 59 = .ok (.goto (-46), 3) := dk_ (by decide +kernel)
theorem dX7_addFor_62 : decode cX7_addFor 62 = .ok (.iload_n 3, 1) := dk_ (by decide +kernel)
theorem dX7_addFor_63 : decode cX7_addFor 63 = .ok (.ireturn, 1) := dk_ (by decide +kernel)
theorem dX7_applyRow_0 : decode cX7_applyRow 0 = .ok (.aload_n 0, 1) := dk_ (by decide +kernel)
theorem dX7_applyRow_1 : decode cX7_applyRow 1 = .ok (.getfield 12, 3) := dk_ (by decide +kernel)
theorem dX7_applyRow_4 : decode cX7_applyRow 4 = .ok (.getfield 68, 3) := dk_ (by decide +kernel)
theorem dX7_applyRow_7 : decode cX7_applyRow 7 = .ok (.aload_n 1, 1) := dk_ (by decide +kernel)
theorem dX7_applyRow_8 : decode cX7_applyRow 8 = .ok (.getfield 61, 3) := dk_ (by decide +kernel)
theorem dX7_applyRow_11 : decode cX7_applyRow 11 = .ok (.aaload, 1) := dk_ (by decide +kernel)
theorem dX7_applyRow_12 : decode cX7_applyRow 12 = .ok (.astore 4, 2) := dk_ (by decide +kernel)
theorem dX7_applyRow_14 : decode cX7_applyRow 14 = .ok (.aload_n 0, 1) := dk_ (by decide +kernel)
theorem dX7_applyRow_15 : decode cX7_applyRow 15 = .ok (.aload_n 1, 1) := dk_ (by decide +kernel)
theorem dX7_applyRow_16 : decode cX7_applyRow 16 = .ok (.getfield 153, 3) := dk_ (by decide +kernel)
theorem dX7_applyRow_19 : decode cX7_applyRow 19 = .ok (.iload_n 2, 1) := dk_ (by decide +kernel)
theorem dX7_applyRow_20 : decode cX7_applyRow 20 = .ok (.invokevirtual 119, 3) := dk_ (by decide +kernel)
theorem dX7_applyRow_23 : decode cX7_applyRow 23 = .ok (.iload_n 3, 1) := dk_ (by decide +kernel)
theorem dX7_applyRow_24 : decode cX7_applyRow 24 = .ok (.invokevirtual 170, 3) := dk_ (by decide +kernel)
theorem dX7_applyRow_27 : decode cX7_applyRow 27 = .ok (.istore 5, 2) := dk_ (by decide +kernel)
theorem dX7_applyRow_29 : decode cX7_applyRow 29 = .ok (.aload_n 0, 1) := dk_ (by decide +kernel)
theorem dX7_applyRow_30 : decode cX7_applyRow 30 = .ok (.aload_n 1, 1) := dk_ (by decide +kernel)
theorem dX7_applyRow_31 : decode cX7_applyRow 31 = .ok (.getfield 153, 3) := dk_ (by decide +kernel)
theorem dX7_applyRow_34 : decode cX7_applyRow 34 = .ok (.iload_n 2, 1) := dk_ (by decide +kernel)
theorem dX7_applyRow_35 : decode cX7_applyRow 35 = .ok (.invokevirtual 123, 3) := dk_ (by decide +kernel)
theorem dX7_applyRow_38 : decode cX7_applyRow 38 = .ok (.iload_n 3, 1) := dk_ (by decide +kernel)
theorem dX7_applyRow_39 : decode cX7_applyRow 39 = .ok (.invokevirtual 170, 3) := dk_ (by decide +kernel)
theorem dX7_applyRow_42 : decode cX7_applyRow 42 = .ok (.istore 6, 2) := dk_ (by decide +kernel)
theorem dX7_applyRow_44 : decode cX7_applyRow 44 = .ok (.aload_n 0, 1) := dk_ (by decide +kernel)
theorem dX7_applyRow_45 : decode cX7_applyRow 45 = .ok (.aload_n 1, 1) := dk_ (by decide +kernel)
theorem dX7_applyRow_46 : decode cX7_applyRow 46 = .ok (.getfield 153, 3) := dk_ (by decide +kernel)
theorem dX7_applyRow_49 : decode cX7_applyRow 49 = .ok (.iload_n 2, 1) := dk_ (by decide +kernel)
theorem dX7_applyRow_50 : decode cX7_applyRow 50 = .ok (.invokevirtual 126, 3) := dk_ (by decide +kernel)
theorem dX7_applyRow_53 : decode cX7_applyRow 53 = .ok (.iload_n 3, 1) := dk_ (by decide +kernel)
theorem dX7_applyRow_54 : decode cX7_applyRow 54 = .ok (.invokevirtual 170, 3) := dk_ (by decide +kernel)
theorem dX7_applyRow_57 : decode cX7_applyRow 57 = .ok (.istore 7, 2) := dk_ (by decide +kernel)
theorem dX7_applyRow_59 : decode cX7_applyRow 59 = .ok (.iload 5, 2) := dk_ (by decide +kernel)
theorem dX7_applyRow_61 : decode cX7_applyRow 61 = .ok (.iconst (-1), 1) := dk_ (by decide +kernel)
theorem dX7_applyRow_62 : decode cX7_applyRow 62 = .ok (.if_icmp .eq 17, 3) := dk_ (by decide +kernel)
theorem dX7_applyRow_65 : decode cX7_applyRow 65 = .ok (.iload 7, 2) := dk_ (by decide +kernel)
theorem dX7_applyRow_67 : decode cX7_applyRow 67 = .ok (.iconst (-1), 1) := dk_ (by decide +kernel)
theorem dX7_applyRow_68 : decode cX7_applyRow 68 = .ok (.if_icmp .eq 11, 3) := dk_ (by decide +kernel)
theorem dX7_applyRow_71 : decode cX7_applyRow 71 = .ok (.iload 6, 2) := dk_ (by decide +kernel)
theorem dX7_applyRow_73 : decode cX7_applyRow 73 = .ok (.invokestatic 174, 3) := dk_ (by decide +kernel)
theorem dX7_applyRow_76 : decode cX7_applyRow 76 = .ok (.ifCond .ne 5, 3) := dk_ (by decide +kernel)
theorem dX7_applyRow_79 : decode cX7_applyRow 79 = .ok (.iconst 1, 1) := dk_ (by decide +kernel)
theorem dX7_applyRow_80 : decode cX7_applyRow 80 = .ok (.ireturn, 1) := dk_ (by decide +kernel)
theorem dX7_applyRow_81 : decode cX7_applyRow 81 = .ok (.aload_n 1, 1) := dk_ (by decide +kernel)
theorem dX7_applyRow_82 : decode cX7_applyRow 82 = .ok (.getfield 156, 3) := dk_ (by decide +kernel)
theorem dX7_applyRow_85 : decode cX7_applyRow 85 = .ok (.iload_n 2, 1) := dk_ (by decide +kernel)
theorem dX7_applyRow_86 : decode cX7_applyRow 86 = .ok (.baload, 1) := dk_ (by decide +kernel)
theorem dX7_applyRow_87 : decode cX7_applyRow 87 = .ok (.ifCond .ne 19, 3) := dk_ (by decide +kernel)
theorem dX7_applyRow_90 : decode cX7_applyRow 90 = .ok (.aload 4, 2) := dk_ (by decide +kernel)
theorem dX7_applyRow_92 : decode cX7_applyRow 92 = .ok (.iload 5, 2) := dk_ (by decide +kernel)
theorem dX7_applyRow_94 : decode cX7_applyRow 94 = .ok (.iload 6, 2) := dk_ (by decide +kernel)
theorem dX7_applyRow_96 : decode cX7_applyRow 96 = .ok (.iload 7, 2) := dk_ (by decide +kernel)
theorem dX7_applyRow_98 : decode cX7_applyRow 98 = .ok (.invokestatic 129, 3) := dk_ (by decide +kernel)
theorem dX7_applyRow_101 : decode cX7_applyRow 101 = .ok (.invokevirtual 177, 3) := dk_ (by decide +kernel)
theorem dX7_applyRow_104 : decode cX7_applyRow 104 = .ok (.iconst 1, 1) := dk_ (by decide +kernel)
theorem dX7_applyRow_105 : decode cX7_applyRow 105 = .ok (.ireturn, 1) := dk_ (by decide +kernel)
theorem dX7_applyRow_106 : decode cX7_applyRow 106 = .ok (.aload_n 0, 1) := dk_ (by decide +kernel)
theorem dX7_applyRow_107 : decode cX7_applyRow 107 = .ok (.iload 5, 2) := dk_ (by decide +kernel)
theorem dX7_applyRow_109 : decode cX7_applyRow 109 = .ok (.invokevirtual 180, 3) := dk_ (by decide +kernel)
theorem dX7_applyRow_112 : decode cX7_applyRow 112 = .ok (.istore 8, 2) := dk_ (by decide +kernel)
theorem dX7_applyRow_114 : decode cX7_applyRow 114 = .ok (.aload_n 0, 1) := dk_ (by decide +kernel)
theorem dX7_applyRow_115 : decode cX7_applyRow 115 = .ok (.iload 7, 2) := dk_ (by decide +kernel)
theorem dX7_applyRow_117 : decode cX7_applyRow 117 = .ok (.invokevirtual 180, 3) := dk_ (by decide +kernel)
theorem dX7_applyRow_120 : decode cX7_applyRow 120 = .ok (.istore 9, 2) := dk_ (by decide +kernel)
theorem dX7_applyRow_122 : decode cX7_applyRow 122 = .ok (.iload 8, 2) := dk_ (by decide +kernel)
theorem dX7_applyRow_124 : decode cX7_applyRow 124 = .ok (.iconst (-1), 1) := dk_ (by decide +kernel)
theorem dX7_applyRow_125 : decode cX7_applyRow 125 = .ok (.if_icmp .eq 34, 3) := dk_ (by decide +kernel)
theorem dX7_applyRow_128 : decode cX7_applyRow 128 = .ok (.iload 9, 2) := dk_ (by decide +kernel)
theorem dX7_applyRow_130 : decode cX7_applyRow 130 = .ok (.iconst (-1), 1) := dk_ (by decide +kernel)
theorem dX7_applyRow_131 : decode cX7_applyRow 131 = .ok (.if_icmp .eq 28, 3) := dk_ (by decide +kernel)
theorem dX7_applyRow_134 : decode cX7_applyRow 134 = .ok (.aload_n 0, 1) := dk_ (by decide +kernel)
theorem dX7_applyRow_135 : decode cX7_applyRow 135 = .ok (.getfield 12, 3) := dk_ (by decide +kernel)
theorem dX7_applyRow_138 : decode cX7_applyRow 138 = .ok (.aload 4, 2) := dk_ (by decide +kernel)
theorem dX7_applyRow_140 : decode cX7_applyRow 140 = .ok (.iload 8, 2) := dk_ (by decide +kernel)
theorem dX7_applyRow_142 : decode cX7_applyRow 142 = .ok (.iload 6, 2) := dk_ (by decide +kernel)
theorem dX7_applyRow_144 : decode cX7_applyRow 144 = .ok (.iload 9, 2) := dk_ (by decide +kernel)
theorem dX7_applyRow_146 : decode cX7_applyRow 146 = .ok (.invokestatic 129, 3) := dk_ (by decide +kernel)
theorem dX7_applyRow_149 : decode cX7_applyRow 149 = .ok (.invokevirtual 103, 3) := dk_ (by decide +kernel)
theorem dX7_applyRow_152 : decode cX7_applyRow 152 = .ok (.ifCond .eq 7, 3) := dk_ (by decide +kernel)
theorem dX7_applyRow_155 : decode cX7_applyRow 155 = .ok (.iconst 1, 1) := dk_ (by decide +kernel)
theorem dX7_applyRow_156 : decode cX7_applyRow 156 = .ok (.goto 4, 3) := dk_ (by decide +kernel)
theorem dX7_applyRow_159 : decode cX7_applyRow 159 = .ok (.iconst 0, 1) := dk_ (by decide +kernel)
theorem dX7_applyRow_160 : decode cX7_applyRow 160 = .ok (.ireturn, 1) := dk_ (by decide +kernel)
theorem dX7_valueOf_0 : decode cX7_valueOf 0 = .ok (.iload_n 1, 1) := dk_ (by decide +kernel)
theorem dX7_valueOf_1 : decode cX7_valueOf 1 = .ok (.invokestatic 183, 3) := dk_ (by decide +kernel)
theorem dX7_valueOf_4 : decode cX7_valueOf 4 = .ok (.ifCond .eq 15, 3) := dk_ (by decide +kernel)
theorem dX7_valueOf_7 : decode cX7_valueOf 7 = .ok (.aload_n 0, 1) := dk_ (by decide +kernel)
theorem dX7_valueOf_8 : decode cX7_valueOf 8 = .ok (.getfield 27, 3) := dk_ (by decide +kernel)
theorem dX7_valueOf_11 : decode cX7_valueOf 11 = .ok (.iload_n 2, 1) := dk_ (by decide +kernel)
theorem dX7_valueOf_12 : decode cX7_valueOf 12 = .ok (.iload_n 1, 1) := dk_ (by decide +kernel)
theorem dX7_valueOf_13 : decode cX7_valueOf 13 = .ok (.invokevirtual 186, 3) := dk_ (by decide +kernel)
theorem dX7_valueOf_16 : decode cX7_valueOf 16 = .ok (.goto 4, 3) := dk_ (by decide +kernel)
theorem dX7_valueOf_19 : decode cX7_valueOf 19 = .ok (.iload_n 1, 1) := dk_ (by decide +kernel)
theorem dX7_valueOf_20 : decode cX7_valueOf 20 = .ok (.ireturn, 1) := dk_ (by decide +kernel)
theorem dX7_withBlank_0 : decode cX7_withBlank 0 = .ok (.iload_n 1, 1) := dk_ (by decide +kernel)
theorem dX7_withBlank_1 : decode cX7_withBlank 1 = .ok (.invokestatic 189, 3) := dk_ (by decide +kernel)
theorem dX7_withBlank_4 : decode cX7_withBlank 4 = .ok (.ifCond .ne 5, 3) := dk_ (by decide +kernel)
theorem dX7_withBlank_7 : decode cX7_withBlank 7 = .ok (.iload_n 1, 1) := dk_ (by decide +kernel)
theorem dX7_withBlank_8 : decode cX7_withBlank 8 = .ok (.ireturn, 1) := dk_ (by decide +kernel)
theorem dX7_withBlank_9 : decode cX7_withBlank 9 = .ok (.bipush (-11), 2) := dk_ (by decide +kernel)
theorem dX7_withBlank_11 : decode cX7_withBlank 11 = .ok (.iload_n 1, 1) := dk_ (by decide +kernel)
theorem dX7_withBlank_12 : decode cX7_withBlank 12 = .ok (.isub, 1) := dk_ (by decide +kernel)
theorem dX7_withBlank_13 : decode cX7_withBlank 13 = .ok (.istore_n 2, 1) := dk_ (by decide +kernel)
theorem dX7_withBlank_14 : decode cX7_withBlank 14 = .ok (.aload_n 0, 1) := dk_ (by decide +kernel)
theorem dX7_withBlank_15 : decode cX7_withBlank 15 = .ok (.getfield 31, 3) := dk_ (by decide +kernel)
theorem dX7_withBlank_18 : decode cX7_withBlank 18 = .ok (.iload_n 2, 1) := dk_ (by decide +kernel)
theorem dX7_withBlank_19 : decode cX7_withBlank 19 = .ok (.iaload, 1) := dk_ (by decide +kernel)
theorem dX7_withBlank_20 : decode cX7_withBlank 20 = .ok (.iconst (-1), 1) := dk_ (by decide +kernel)
theorem dX7_withBlank_21 : decode cX7_withBlank 21 = .ok (.if_icmp .ne 16, 3) := dk_ (by decide +kernel)
theorem dX7_withBlank_24 : decode cX7_withBlank 24 = .ok (.aload_n 0, 1) := dk_ (by decide +kernel)
theorem dX7_withBlank_25 : decode cX7_withBlank 25 = .ok (.getfield 31, 3) := dk_ (by decide +kernel)
theorem dX7_withBlank_28 : decode cX7_withBlank 28 = .ok (.iload_n 2, 1) := dk_ (by decide +kernel)
theorem dX7_withBlank_29 : decode cX7_withBlank 29 = .ok (.aload_n 0, 1) := dk_ (by decide +kernel)
theorem dX7_withBlank_30 : decode cX7_withBlank 30 = .ok (.getfield 12, 3) := dk_ (by decide +kernel)
theorem dX7_withBlank_33 : decode cX7_withBlank 33 = .ok (.invokevirtual 192, 3) := dk_ (by decide +kernel)
theorem dX7_withBlank_36 : decode cX7_withBlank 36 = .ok (.iastore, 1) := dk_ (by decide +kernel)
theorem dX7_withBlank_37 : decode cX7_withBlank 37 = .ok (.aload_n 0, 1) := dk_ (by decide +kernel)
theorem dX7_withBlank_38 : decode cX7_withBlank 38 = .ok (.getfield 31, 3) := dk_ (by decide +kernel)
theorem dX7_withBlank_41 : decode cX7_withBlank 41 = .ok (.iload_n 2, 1) := dk_ (by decide +kernel)
theorem dX7_withBlank_42 : decode cX7_withBlank 42 = .ok (.iaload, 1) := dk_ (by decide +kernel)
theorem dX7_withBlank_43 : decode cX7_withBlank 43 = .ok (.ireturn, 1) := dk_ (by decide +kernel)
theorem dX8_init_0 : decode cX8_init 0 = .ok (.aload_n 0, 1) := dk_ (by decide +kernel)
theorem dX8_init_1 : decode cX8_init 1 = .ok (.invokespecial 1, 3) := dk_ (by decide +kernel)
theorem dX8_init_4 : decode cX8_init 4 = .ok (.aload_n 0, 1) := dk_ (by decide +kernel)
theorem dX8_init_5 : decode cX8_init 5 = .ok (.bipush 12, 2) := dk_ (by decide +kernel)
theorem dX8_init_7 : decode cX8_init 7 = .ok (.anewarray 9, 3) := dk_ (by decide +kernel)
theorem dX8_init_10 : decode cX8_init 10 = .ok (.putfield 11, 3) := dk_ (by decide +kernel)
theorem dX8_init_13 : decode cX8_init 13 = .ok (.aload_n 0, 1) := dk_ (by decide +kernel)
theorem dX8_init_14 : decode cX8_init 14 = .ok (.new 15, 3) := dk_ (by decide +kernel)
theorem dX8_init_17 : decode cX8_init 17 = .ok (.dup, 1) := dk_ (by decide +kernel)
theorem dX8_init_18 : decode cX8_init 18 = .ok (.invokespecial 17, 3) := dk_ (by decide +kernel)
end
end
section
theorem zz_0 : True := trivial
end

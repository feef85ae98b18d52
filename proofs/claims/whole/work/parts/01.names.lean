-- ===== PART A: goes FIRST, ahead of the names: the tables' words, and 'selects' of the private methods out of them =====
/-- a private method of a class that the tables say can be made, by its rows of tables_1 -/
def lw_okq (q : MethodName × Nat) : Prop := (q.1.cls ≠ "java/lang/invoke/MethodHandle" ∧ q.1.cls ≠ "java/lang/invoke/VarHandle") ∧ Cond.instantiable q.1.cls q.2 ∈ tables_1 ∧ Cond.privateMethod q.1 ∈ tables_1 ∧ Cond.instanceMethod q.1 ∈ tables_1
theorem lw_p0 : lw_okq (⟨"HashedLearner$Crossings", "contains", "(CC)Z"⟩, 4) := ⟨⟨by decide +kernel, by decide +kernel⟩, List.mem_of_getElem? (i := 51) (by decide +kernel), List.mem_of_getElem? (i := 267) (by decide +kernel), List.mem_of_getElem? (i := 268) (by decide +kernel)⟩
theorem lw_p1 : lw_okq (⟨"HashedLearner$Line", "find", "(CII)I"⟩, 7) := ⟨⟨by decide +kernel, by decide +kernel⟩, List.mem_of_getElem? (i := 22) (by decide +kernel), List.mem_of_getElem? (i := 279) (by decide +kernel), List.mem_of_getElem? (i := 280) (by decide +kernel)⟩
theorem lw_p2 : lw_okq (⟨"HashedLearner$Line", "readHead", "(ILHashedLearner$Example;)Z"⟩, 7) := ⟨⟨by decide +kernel, by decide +kernel⟩, List.mem_of_getElem? (i := 22) (by decide +kernel), List.mem_of_getElem? (i := 283) (by decide +kernel), List.mem_of_getElem? (i := 284) (by decide +kernel)⟩
theorem lw_p3 : lw_okq (⟨"HashedLearner$Line", "skipSpaces", "(II)I"⟩, 7) := ⟨⟨by decide +kernel, by decide +kernel⟩, List.mem_of_getElem? (i := 22) (by decide +kernel), List.mem_of_getElem? (i := 287) (by decide +kernel), List.mem_of_getElem? (i := 288) (by decide +kernel)⟩
theorem lw_p4 : lw_okq (⟨"HashedLearner$Line", "readNumber", "(II)I"⟩, 7) := ⟨⟨by decide +kernel, by decide +kernel⟩, List.mem_of_getElem? (i := 22) (by decide +kernel), List.mem_of_getElem? (i := 291) (by decide +kernel), List.mem_of_getElem? (i := 292) (by decide +kernel)⟩
theorem lw_p5 : lw_okq (⟨"HashedLearner$Line", "readImportance", "(IILHashedLearner$Example;)Z"⟩, 7) := ⟨⟨by decide +kernel, by decide +kernel⟩, List.mem_of_getElem? (i := 22) (by decide +kernel), List.mem_of_getElem? (i := 302) (by decide +kernel), List.mem_of_getElem? (i := 303) (by decide +kernel)⟩
theorem lw_p6 : lw_okq (⟨"HashedLearner$Line", "readNamespace", "(IILHashedLearner$Example;)Z"⟩, 7) := ⟨⟨by decide +kernel, by decide +kernel⟩, List.mem_of_getElem? (i := 22) (by decide +kernel), List.mem_of_getElem? (i := 306) (by decide +kernel), List.mem_of_getElem? (i := 307) (by decide +kernel)⟩
theorem lw_p7 : lw_okq (⟨"HashedLearner$Line", "readTitle", "(II)Z"⟩, 7) := ⟨⟨by decide +kernel, by decide +kernel⟩, List.mem_of_getElem? (i := 22) (by decide +kernel), List.mem_of_getElem? (i := 310) (by decide +kernel), List.mem_of_getElem? (i := 311) (by decide +kernel)⟩
theorem lw_p8 : lw_okq (⟨"HashedLearner$Line", "readPart", "(II)Z"⟩, 7) := ⟨⟨by decide +kernel, by decide +kernel⟩, List.mem_of_getElem? (i := 22) (by decide +kernel), List.mem_of_getElem? (i := 314) (by decide +kernel), List.mem_of_getElem? (i := 315) (by decide +kernel)⟩
theorem lw_p9 : lw_okq (⟨"HashedLearner$Line", "readFeature", "(IILHashedLearner$Example;)Z"⟩, 7) := ⟨⟨by decide +kernel, by decide +kernel⟩, List.mem_of_getElem? (i := 22) (by decide +kernel), List.mem_of_getElem? (i := 340) (by decide +kernel), List.mem_of_getElem? (i := 341) (by decide +kernel)⟩
theorem lw_p10 : lw_okq (⟨"HashedLearner", "predictionFor", "(LHashedLearner$Example;)I"⟩, 14) := ⟨⟨by decide +kernel, by decide +kernel⟩, List.mem_of_getElem? (i := 14) (by decide +kernel), List.mem_of_getElem? (i := 369) (by decide +kernel), List.mem_of_getElem? (i := 370) (by decide +kernel)⟩
theorem lw_p11 : lw_okq (⟨"HashedLearner$Terms", "add", "(II)V"⟩, 3) := ⟨⟨by decide +kernel, by decide +kernel⟩, List.mem_of_getElem? (i := 75) (by decide +kernel), List.mem_of_getElem? (i := 377) (by decide +kernel), List.mem_of_getElem? (i := 378) (by decide +kernel)⟩
theorem lw_p12 : lw_okq (⟨"HashedLearner$Terms", "addCrossing", "(LHashedLearner$Example;CC)V"⟩, 3) := ⟨⟨by decide +kernel, by decide +kernel⟩, List.mem_of_getElem? (i := 75) (by decide +kernel), List.mem_of_getElem? (i := 381) (by decide +kernel), List.mem_of_getElem? (i := 382) (by decide +kernel)⟩
theorem lw_p13 : lw_okq (⟨"HashedLearner$Terms", "addPairs", "(LHashedLearner$Example;IC)V"⟩, 3) := ⟨⟨by decide +kernel, by decide +kernel⟩, List.mem_of_getElem? (i := 75) (by decide +kernel), List.mem_of_getElem? (i := 385) (by decide +kernel), List.mem_of_getElem? (i := 386) (by decide +kernel)⟩
theorem lw_p14 : lw_okq (⟨"HashedLearner$Tally", "addReport", "()V"⟩, 6) := ⟨⟨by decide +kernel, by decide +kernel⟩, List.mem_of_getElem? (i := 98) (by decide +kernel), List.mem_of_getElem? (i := 425) (by decide +kernel), List.mem_of_getElem? (i := 426) (by decide +kernel)⟩
theorem lw_p15 : lw_okq (⟨"HashedLearner", "teach", "(LHashedLearner$Example;)V"⟩, 14) := ⟨⟨by decide +kernel, by decide +kernel⟩, List.mem_of_getElem? (i := 14) (by decide +kernel), List.mem_of_getElem? (i := 429) (by decide +kernel), List.mem_of_getElem? (i := 430) (by decide +kernel)⟩
def lw_privs_1 : List (MethodName × Nat) := [(⟨"HashedLearner$Crossings", "contains", "(CC)Z"⟩, 4), (⟨"HashedLearner$Line", "find", "(CII)I"⟩, 7), (⟨"HashedLearner$Line", "readHead", "(ILHashedLearner$Example;)Z"⟩, 7), (⟨"HashedLearner$Line", "skipSpaces", "(II)I"⟩, 7), (⟨"HashedLearner$Line", "readNumber", "(II)I"⟩, 7), (⟨"HashedLearner$Line", "readImportance", "(IILHashedLearner$Example;)Z"⟩, 7), (⟨"HashedLearner$Line", "readNamespace", "(IILHashedLearner$Example;)Z"⟩, 7), (⟨"HashedLearner$Line", "readTitle", "(II)Z"⟩, 7), (⟨"HashedLearner$Line", "readPart", "(II)Z"⟩, 7), (⟨"HashedLearner$Line", "readFeature", "(IILHashedLearner$Example;)Z"⟩, 7), (⟨"HashedLearner", "predictionFor", "(LHashedLearner$Example;)I"⟩, 14), (⟨"HashedLearner$Terms", "add", "(II)V"⟩, 3), (⟨"HashedLearner$Terms", "addCrossing", "(LHashedLearner$Example;CC)V"⟩, 3), (⟨"HashedLearner$Terms", "addPairs", "(LHashedLearner$Example;IC)V"⟩, 3), (⟨"HashedLearner$Tally", "addReport", "()V"⟩, 6), (⟨"HashedLearner", "teach", "(LHashedLearner$Example;)V"⟩, 14)]
theorem lw_r1 : ∀ q ∈ lw_privs_1, lw_okq q := List.forall_mem_cons.mpr ⟨lw_p0, List.forall_mem_cons.mpr ⟨lw_p1, List.forall_mem_cons.mpr ⟨lw_p2, List.forall_mem_cons.mpr ⟨lw_p3, List.forall_mem_cons.mpr ⟨lw_p4, List.forall_mem_cons.mpr ⟨lw_p5, List.forall_mem_cons.mpr ⟨lw_p6, List.forall_mem_cons.mpr ⟨lw_p7, List.forall_mem_cons.mpr ⟨lw_p8, List.forall_mem_cons.mpr ⟨lw_p9, List.forall_mem_cons.mpr ⟨lw_p10, List.forall_mem_cons.mpr ⟨lw_p11, List.forall_mem_cons.mpr ⟨lw_p12, List.forall_mem_cons.mpr ⟨lw_p13, List.forall_mem_cons.mpr ⟨lw_p14, List.forall_mem_cons.mpr ⟨lw_p15, fun _ h => absurd h List.not_mem_nil⟩⟩⟩⟩⟩⟩⟩⟩⟩⟩⟩⟩⟩⟩⟩⟩
theorem lw_p16 : lw_okq (⟨"HashedLearner$Table", "moveByRule1", "(IJ)V"⟩, 4) := ⟨⟨by decide +kernel, by decide +kernel⟩, List.mem_of_getElem? (i := 139) (by decide +kernel), List.mem_of_getElem? (i := 444) (by decide +kernel), List.mem_of_getElem? (i := 445) (by decide +kernel)⟩
theorem lw_p17 : lw_okq (⟨"HashedLearner$Table", "moveByRule0", "(IIJ)V"⟩, 4) := ⟨⟨by decide +kernel, by decide +kernel⟩, List.mem_of_getElem? (i := 139) (by decide +kernel), List.mem_of_getElem? (i := 460) (by decide +kernel), List.mem_of_getElem? (i := 461) (by decide +kernel)⟩
theorem lw_p18 : lw_okq (⟨"HashedLearner", "keepOldest", "()V"⟩, 14) := ⟨⟨by decide +kernel, by decide +kernel⟩, List.mem_of_getElem? (i := 14) (by decide +kernel), List.mem_of_getElem? (i := 468) (by decide +kernel), List.mem_of_getElem? (i := 469) (by decide +kernel)⟩
theorem lw_p19 : lw_okq (⟨"HashedLearner", "hasTerm", "(I)Z"⟩, 14) := ⟨⟨by decide +kernel, by decide +kernel⟩, List.mem_of_getElem? (i := 14) (by decide +kernel), List.mem_of_getElem? (i := 492) (by decide +kernel), List.mem_of_getElem? (i := 493) (by decide +kernel)⟩
theorem lw_p20 : lw_okq (⟨"HashedLearnerModel", "parse", "(I)Z"⟩, 34) := ⟨⟨by decide +kernel, by decide +kernel⟩, List.mem_of_getElem? (i := 553) (by decide +kernel), List.mem_of_getElem? (i := 677) (by decide +kernel), List.mem_of_getElem? (i := 678) (by decide +kernel)⟩
theorem lw_p21 : lw_okq (⟨"HashedLearnerModel", "find", "(III)I"⟩, 34) := ⟨⟨by decide +kernel, by decide +kernel⟩, List.mem_of_getElem? (i := 553) (by decide +kernel), List.mem_of_getElem? (i := 681) (by decide +kernel), List.mem_of_getElem? (i := 682) (by decide +kernel)⟩
theorem lw_p22 : lw_okq (⟨"HashedLearnerModel", "head", "(II)Z"⟩, 34) := ⟨⟨by decide +kernel, by decide +kernel⟩, List.mem_of_getElem? (i := 553) (by decide +kernel), List.mem_of_getElem? (i := 685) (by decide +kernel), List.mem_of_getElem? (i := 686) (by decide +kernel)⟩
theorem lw_p23 : lw_okq (⟨"HashedLearnerModel", "begin", "(II)I"⟩, 34) := ⟨⟨by decide +kernel, by decide +kernel⟩, List.mem_of_getElem? (i := 553) (by decide +kernel), List.mem_of_getElem? (i := 690) (by decide +kernel), List.mem_of_getElem? (i := 691) (by decide +kernel)⟩
theorem lw_p24 : lw_okq (⟨"HashedLearnerModel", "end", "(II)I"⟩, 34) := ⟨⟨by decide +kernel, by decide +kernel⟩, List.mem_of_getElem? (i := 553) (by decide +kernel), List.mem_of_getElem? (i := 694) (by decide +kernel), List.mem_of_getElem? (i := 695) (by decide +kernel)⟩
theorem lw_p25 : lw_okq (⟨"HashedLearnerModel", "number", "(II)I"⟩, 34) := ⟨⟨by decide +kernel, by decide +kernel⟩, List.mem_of_getElem? (i := 553) (by decide +kernel), List.mem_of_getElem? (i := 698) (by decide +kernel), List.mem_of_getElem? (i := 699) (by decide +kernel)⟩
theorem lw_p26 : lw_okq (⟨"HashedLearnerModel", "digits", "(II)I"⟩, 34) := ⟨⟨by decide +kernel, by decide +kernel⟩, List.mem_of_getElem? (i := 553) (by decide +kernel), List.mem_of_getElem? (i := 702) (by decide +kernel), List.mem_of_getElem? (i := 703) (by decide +kernel)⟩
theorem lw_p27 : lw_okq (⟨"HashedLearnerModel", "read", "(II)I"⟩, 34) := ⟨⟨by decide +kernel, by decide +kernel⟩, List.mem_of_getElem? (i := 553) (by decide +kernel), List.mem_of_getElem? (i := 709) (by decide +kernel), List.mem_of_getElem? (i := 710) (by decide +kernel)⟩
theorem lw_p28 : lw_okq (⟨"HashedLearnerModel", "namespace", "(II)Z"⟩, 34) := ⟨⟨by decide +kernel, by decide +kernel⟩, List.mem_of_getElem? (i := 553) (by decide +kernel), List.mem_of_getElem? (i := 713) (by decide +kernel), List.mem_of_getElem? (i := 714) (by decide +kernel)⟩
theorem lw_p29 : lw_okq (⟨"HashedLearnerModel", "nameEnd", "(II)I"⟩, 34) := ⟨⟨by decide +kernel, by decide +kernel⟩, List.mem_of_getElem? (i := 553) (by decide +kernel), List.mem_of_getElem? (i := 717) (by decide +kernel), List.mem_of_getElem? (i := 718) (by decide +kernel)⟩
theorem lw_p30 : lw_okq (⟨"HashedLearnerModel", "hashOf", "(III)I"⟩, 34) := ⟨⟨by decide +kernel, by decide +kernel⟩, List.mem_of_getElem? (i := 553) (by decide +kernel), List.mem_of_getElem? (i := 721) (by decide +kernel), List.mem_of_getElem? (i := 722) (by decide +kernel)⟩
theorem lw_p31 : lw_okq (⟨"HashedLearnerModel", "block", "(II)I"⟩, 34) := ⟨⟨by decide +kernel, by decide +kernel⟩, List.mem_of_getElem? (i := 553) (by decide +kernel), List.mem_of_getElem? (i := 725) (by decide +kernel), List.mem_of_getElem? (i := 726) (by decide +kernel)⟩
def lw_privs_2 : List (MethodName × Nat) := [(⟨"HashedLearner$Table", "moveByRule1", "(IJ)V"⟩, 4), (⟨"HashedLearner$Table", "moveByRule0", "(IIJ)V"⟩, 4), (⟨"HashedLearner", "keepOldest", "()V"⟩, 14), (⟨"HashedLearner", "hasTerm", "(I)Z"⟩, 14), (⟨"HashedLearnerModel", "parse", "(I)Z"⟩, 34), (⟨"HashedLearnerModel", "find", "(III)I"⟩, 34), (⟨"HashedLearnerModel", "head", "(II)Z"⟩, 34), (⟨"HashedLearnerModel", "begin", "(II)I"⟩, 34), (⟨"HashedLearnerModel", "end", "(II)I"⟩, 34), (⟨"HashedLearnerModel", "number", "(II)I"⟩, 34), (⟨"HashedLearnerModel", "digits", "(II)I"⟩, 34), (⟨"HashedLearnerModel", "read", "(II)I"⟩, 34), (⟨"HashedLearnerModel", "namespace", "(II)Z"⟩, 34), (⟨"HashedLearnerModel", "nameEnd", "(II)I"⟩, 34), (⟨"HashedLearnerModel", "hashOf", "(III)I"⟩, 34), (⟨"HashedLearnerModel", "block", "(II)I"⟩, 34)]
theorem lw_r2 : ∀ q ∈ lw_privs_2, lw_okq q := List.forall_mem_cons.mpr ⟨lw_p16, List.forall_mem_cons.mpr ⟨lw_p17, List.forall_mem_cons.mpr ⟨lw_p18, List.forall_mem_cons.mpr ⟨lw_p19, List.forall_mem_cons.mpr ⟨lw_p20, List.forall_mem_cons.mpr ⟨lw_p21, List.forall_mem_cons.mpr ⟨lw_p22, List.forall_mem_cons.mpr ⟨lw_p23, List.forall_mem_cons.mpr ⟨lw_p24, List.forall_mem_cons.mpr ⟨lw_p25, List.forall_mem_cons.mpr ⟨lw_p26, List.forall_mem_cons.mpr ⟨lw_p27, List.forall_mem_cons.mpr ⟨lw_p28, List.forall_mem_cons.mpr ⟨lw_p29, List.forall_mem_cons.mpr ⟨lw_p30, List.forall_mem_cons.mpr ⟨lw_p31, fun _ h => absurd h List.not_mem_nil⟩⟩⟩⟩⟩⟩⟩⟩⟩⟩⟩⟩⟩⟩⟩⟩
theorem lw_p32 : lw_okq (⟨"HashedLearnerModel", "amount", "(II)I"⟩, 34) := ⟨⟨by decide +kernel, by decide +kernel⟩, List.mem_of_getElem? (i := 553) (by decide +kernel), List.mem_of_getElem? (i := 740) (by decide +kernel), List.mem_of_getElem? (i := 741) (by decide +kernel)⟩
theorem lw_p33 : lw_okq (⟨"HashedLearnerModel", "spread", "(I)V"⟩, 34) := ⟨⟨by decide +kernel, by decide +kernel⟩, List.mem_of_getElem? (i := 553) (by decide +kernel), List.mem_of_getElem? (i := 754) (by decide +kernel), List.mem_of_getElem? (i := 755) (by decide +kernel)⟩
theorem lw_p34 : lw_okq (⟨"HashedLearnerModel", "term", "(IJ)V"⟩, 34) := ⟨⟨by decide +kernel, by decide +kernel⟩, List.mem_of_getElem? (i := 553) (by decide +kernel), List.mem_of_getElem? (i := 758) (by decide +kernel), List.mem_of_getElem? (i := 759) (by decide +kernel)⟩
theorem lw_p35 : lw_okq (⟨"HashedLearnerModel", "predict", "()J"⟩, 34) := ⟨⟨by decide +kernel, by decide +kernel⟩, List.mem_of_getElem? (i := 553) (by decide +kernel), List.mem_of_getElem? (i := 764) (by decide +kernel), List.mem_of_getElem? (i := 765) (by decide +kernel)⟩
theorem lw_p36 : lw_okq (⟨"HashedLearnerModel", "slot", "(I)I"⟩, 34) := ⟨⟨by decide +kernel, by decide +kernel⟩, List.mem_of_getElem? (i := 553) (by decide +kernel), List.mem_of_getElem? (i := 768) (by decide +kernel), List.mem_of_getElem? (i := 769) (by decide +kernel)⟩
theorem lw_p37 : lw_okq (⟨"HashedLearnerModel", "account", "(J)V"⟩, 34) := ⟨⟨by decide +kernel, by decide +kernel⟩, List.mem_of_getElem? (i := 553) (by decide +kernel), List.mem_of_getElem? (i := 774) (by decide +kernel), List.mem_of_getElem? (i := 775) (by decide +kernel)⟩
theorem lw_p38 : lw_okq (⟨"HashedLearnerModel", "cost", "(J)J"⟩, 34) := ⟨⟨by decide +kernel, by decide +kernel⟩, List.mem_of_getElem? (i := 553) (by decide +kernel), List.mem_of_getElem? (i := 778) (by decide +kernel), List.mem_of_getElem? (i := 779) (by decide +kernel)⟩
theorem lw_p39 : lw_okq (⟨"HashedLearnerModel", "learnIt", "(I)V"⟩, 34) := ⟨⟨by decide +kernel, by decide +kernel⟩, List.mem_of_getElem? (i := 553) (by decide +kernel), List.mem_of_getElem? (i := 784) (by decide +kernel), List.mem_of_getElem? (i := 785) (by decide +kernel)⟩
theorem lw_p40 : lw_okq (⟨"HashedLearnerModel", "gradient", "(J)J"⟩, 34) := ⟨⟨by decide +kernel, by decide +kernel⟩, List.mem_of_getElem? (i := 553) (by decide +kernel), List.mem_of_getElem? (i := 788) (by decide +kernel), List.mem_of_getElem? (i := 789) (by decide +kernel)⟩
theorem lw_p41 : lw_okq (⟨"HashedLearnerModel", "scaled", "(IJJ)V"⟩, 34) := ⟨⟨by decide +kernel, by decide +kernel⟩, List.mem_of_getElem? (i := 553) (by decide +kernel), List.mem_of_getElem? (i := 794) (by decide +kernel), List.mem_of_getElem? (i := 795) (by decide +kernel)⟩
theorem lw_p42 : lw_okq (⟨"HashedLearnerModel", "followed", "(IJ)V"⟩, 34) := ⟨⟨by decide +kernel, by decide +kernel⟩, List.mem_of_getElem? (i := 553) (by decide +kernel), List.mem_of_getElem? (i := 806) (by decide +kernel), List.mem_of_getElem? (i := 807) (by decide +kernel)⟩
theorem lw_p43 : lw_okq (⟨"HashedLearnerModel", "copyLine", "(II)V"⟩, 34) := ⟨⟨by decide +kernel, by decide +kernel⟩, List.mem_of_getElem? (i := 553) (by decide +kernel), List.mem_of_getElem? (i := 815) (by decide +kernel), List.mem_of_getElem? (i := 816) (by decide +kernel)⟩
theorem lw_p44 : lw_okq (⟨"HashedLearnerModel", "copyTable", "(II)V"⟩, 34) := ⟨⟨by decide +kernel, by decide +kernel⟩, List.mem_of_getElem? (i := 553) (by decide +kernel), List.mem_of_getElem? (i := 864) (by decide +kernel), List.mem_of_getElem? (i := 865) (by decide +kernel)⟩
def lw_privs_3 : List (MethodName × Nat) := [(⟨"HashedLearnerModel", "amount", "(II)I"⟩, 34), (⟨"HashedLearnerModel", "spread", "(I)V"⟩, 34), (⟨"HashedLearnerModel", "term", "(IJ)V"⟩, 34), (⟨"HashedLearnerModel", "predict", "()J"⟩, 34), (⟨"HashedLearnerModel", "slot", "(I)I"⟩, 34), (⟨"HashedLearnerModel", "account", "(J)V"⟩, 34), (⟨"HashedLearnerModel", "cost", "(J)J"⟩, 34), (⟨"HashedLearnerModel", "learnIt", "(I)V"⟩, 34), (⟨"HashedLearnerModel", "gradient", "(J)J"⟩, 34), (⟨"HashedLearnerModel", "scaled", "(IJJ)V"⟩, 34), (⟨"HashedLearnerModel", "followed", "(IJ)V"⟩, 34), (⟨"HashedLearnerModel", "copyLine", "(II)V"⟩, 34), (⟨"HashedLearnerModel", "copyTable", "(II)V"⟩, 34)]
theorem lw_r3 : ∀ q ∈ lw_privs_3, lw_okq q := List.forall_mem_cons.mpr ⟨lw_p32, List.forall_mem_cons.mpr ⟨lw_p33, List.forall_mem_cons.mpr ⟨lw_p34, List.forall_mem_cons.mpr ⟨lw_p35, List.forall_mem_cons.mpr ⟨lw_p36, List.forall_mem_cons.mpr ⟨lw_p37, List.forall_mem_cons.mpr ⟨lw_p38, List.forall_mem_cons.mpr ⟨lw_p39, List.forall_mem_cons.mpr ⟨lw_p40, List.forall_mem_cons.mpr ⟨lw_p41, List.forall_mem_cons.mpr ⟨lw_p42, List.forall_mem_cons.mpr ⟨lw_p43, List.forall_mem_cons.mpr ⟨lw_p44, fun _ h => absurd h List.not_mem_nil⟩⟩⟩⟩⟩⟩⟩⟩⟩⟩⟩⟩⟩
def lw_privs : List (MethodName × Nat) := lw_privs_1 ++ (lw_privs_2 ++ (lw_privs_3))
def lw_tbl : List Cond := k2_sels lw_privs ++ tables_1
theorem lw_privs_ok : ∀ q ∈ lw_privs, lw_okq q := by
  show ∀ q ∈ lw_privs_1 ++ (lw_privs_2 ++ (lw_privs_3)), lw_okq q
  exact List.forall_mem_append.mpr ⟨lw_r1, List.forall_mem_append.mpr ⟨lw_r2, lw_r3⟩⟩
def R_Crossings : String := "HashedLearner$Crossings"
def F_Crossings : u_T := fun k => match k with
  | 0 => ("HashedLearner$Crossings", "lefts", "[C", true)
  | 1 => ("HashedLearner$Crossings", "rights", "[C", true)
  | 2 => ("HashedLearner$Crossings", "count", "I", false)
  | _ => ("HashedLearner$Crossings", "closed", "Z", false)
def t_Crossings : Nat → FieldType := fun k => match k with
  | 0 => (.array .char)
  | 1 => (.array .char)
  | 2 => .int
  | _ => .boolean
theorem n_Crossings : ∀ a, a < 4 → ∀ b, b < 4 → a ≠ b → (F_Crossings a).2.1 ≠ (F_Crossings b).2.1 := by decide +kernel
theorem t_Crossings_ok : ∀ k, k < 4 → parseFieldDescriptor (F_Crossings k).2.2.1 = some (t_Crossings k) := by decide +kernel
def R_Example : String := "HashedLearner$Example"
def F_Example : u_T := fun k => match k with
  | 0 => ("HashedLearner$Example", "hashes", "[I", true)
  | 1 => ("HashedLearner$Example", "values", "[I", true)
  | 2 => ("HashedLearner$Example", "letters", "[C", true)
  | 3 => ("HashedLearner$Example", "features", "I", false)
  | 4 => ("HashedLearner$Example", "labelled", "Z", false)
  | 5 => ("HashedLearner$Example", "label", "I", false)
  | _ => ("HashedLearner$Example", "importance", "I", false)
def t_Example : Nat → FieldType := fun k => match k with
  | 0 => (.array .int)
  | 1 => (.array .int)
  | 2 => (.array .char)
  | 3 => .int
  | 4 => .boolean
  | 5 => .int
  | _ => .int
theorem n_Example : ∀ a, a < 7 → ∀ b, b < 7 → a ≠ b → (F_Example a).2.1 ≠ (F_Example b).2.1 := by decide +kernel
theorem t_Example_ok : ∀ k, k < 7 → parseFieldDescriptor (F_Example k).2.2.1 = some (t_Example k) := by decide +kernel
def R_Line : String := "HashedLearner$Line"
def F_Line : u_T := fun k => match k with
  | 0 => ("HashedLearner$Line", "text", "[C", true)
  | 1 => ("HashedLearner$Line", "length", "I", false)
  | 2 => ("HashedLearner$Line", "nameEnd", "I", false)
  | 3 => ("HashedLearner$Line", "partNumber", "I", false)
  | 4 => ("HashedLearner$Line", "letter", "C", false)
  | 5 => ("HashedLearner$Line", "seed", "I", false)
  | _ => ("HashedLearner$Line", "factor", "I", false)
def t_Line : Nat → FieldType := fun k => match k with
  | 0 => (.array .char)
  | 1 => .int
  | 2 => .int
  | 3 => .int
  | 4 => .char
  | 5 => .int
  | _ => .int
theorem n_Line : ∀ a, a < 7 → ∀ b, b < 7 → a ≠ b → (F_Line a).2.1 ≠ (F_Line b).2.1 := by decide +kernel
theorem t_Line_ok : ∀ k, k < 7 → parseFieldDescriptor (F_Line k).2.2.1 = some (t_Line k) := by decide +kernel
def R_Loss : String := "HashedLearner$Loss"
def F_Loss : u_T := fun k => match k with
  | _ => ("HashedLearner$Loss", "kind", "I", true)
def t_Loss : Nat → FieldType := fun k => match k with
  | _ => .int
theorem n_Loss : ∀ a, a < 1 → ∀ b, b < 1 → a ≠ b → (F_Loss a).2.1 ≠ (F_Loss b).2.1 := by decide +kernel
theorem t_Loss_ok : ∀ k, k < 1 → parseFieldDescriptor (F_Loss k).2.2.1 = some (t_Loss k) := by decide +kernel
def R_Table : String := "HashedLearner$Table"
def F_Table : u_T := fun k => match k with
  | 0 => ("HashedLearner$Table", "weights", "[I", true)
  | 1 => ("HashedLearner$Table", "sums", "[J", true)
  | 2 => ("HashedLearner$Table", "scales", "[J", true)
  | _ => ("HashedLearner$Table", "rule", "I", true)
def t_Table : Nat → FieldType := fun k => match k with
  | 0 => (.array .int)
  | 1 => (.array .long)
  | 2 => (.array .long)
  | _ => .int
theorem n_Table : ∀ a, a < 4 → ∀ b, b < 4 → a ≠ b → (F_Table a).2.1 ≠ (F_Table b).2.1 := by decide +kernel
theorem t_Table_ok : ∀ k, k < 4 → parseFieldDescriptor (F_Table k).2.2.1 = some (t_Table k) := by decide +kernel
def R_Tally : String := "HashedLearner$Tally"
def F_Tally : u_T := fun k => match k with
  | 0 => ("HashedLearner$Tally", "reports", "[J", true)
  | 1 => ("HashedLearner$Tally", "reportCount", "I", false)
  | 2 => ("HashedLearner$Tally", "total", "J", false)
  | 3 => ("HashedLearner$Tally", "examples", "I", false)
  | 4 => ("HashedLearner$Tally", "costs", "J", false)
  | _ => ("HashedLearner$Tally", "importances", "J", false)
def t_Tally : Nat → FieldType := fun k => match k with
  | 0 => (.array .long)
  | 1 => .int
  | 2 => .long
  | 3 => .int
  | 4 => .long
  | _ => .long
theorem n_Tally : ∀ a, a < 6 → ∀ b, b < 6 → a ≠ b → (F_Tally a).2.1 ≠ (F_Tally b).2.1 := by decide +kernel
theorem t_Tally_ok : ∀ k, k < 6 → parseFieldDescriptor (F_Tally k).2.2.1 = some (t_Tally k) := by decide +kernel
def R_Terms : String := "HashedLearner$Terms"
def F_Terms : u_T := fun k => match k with
  | 0 => ("HashedLearner$Terms", "hashes", "[I", true)
  | 1 => ("HashedLearner$Terms", "values", "[I", true)
  | _ => ("HashedLearner$Terms", "count", "I", false)
def t_Terms : Nat → FieldType := fun k => match k with
  | 0 => (.array .int)
  | 1 => (.array .int)
  | _ => .int
theorem n_Terms : ∀ a, a < 3 → ∀ b, b < 3 → a ≠ b → (F_Terms a).2.1 ≠ (F_Terms b).2.1 := by decide +kernel
theorem t_Terms_ok : ∀ k, k < 3 → parseFieldDescriptor (F_Terms k).2.2.1 = some (t_Terms k) := by decide +kernel
def R_H : String := "HashedLearner"
def F_H : u_T := fun k => match k with
  | 0 => ("HashedLearner", "typed", "LHashedLearner$Line;", true)
  | 1 => ("HashedLearner", "crossings", "LHashedLearner$Crossings;", true)
  | 2 => ("HashedLearner", "ring", "[LHashedLearner$Example;", true)
  | 3 => ("HashedLearner", "oldest", "I", false)
  | 4 => ("HashedLearner", "held", "I", false)
  | 5 => ("HashedLearner", "store", "[LHashedLearner$Example;", true)
  | 6 => ("HashedLearner", "stored", "I", false)
  | 7 => ("HashedLearner", "expanded", "LHashedLearner$Terms;", true)
  | 8 => ("HashedLearner", "lossFunction", "LHashedLearner$Loss;", true)
  | 9 => ("HashedLearner", "tally", "LHashedLearner$Tally;", true)
  | 10 => ("HashedLearner", "table", "LHashedLearner$Table;", true)
  | 11 => ("HashedLearner", "models", "[LHashedLearner$Table;", true)
  | 12 => ("HashedLearner", "saved", "[Z", true)
  | _ => ("HashedLearner", "warningCount", "I", false)
def t_H : Nat → FieldType := fun k => match k with
  | 0 => (.object "HashedLearner$Line")
  | 1 => (.object "HashedLearner$Crossings")
  | 2 => (.array (.object "HashedLearner$Example"))
  | 3 => .int
  | 4 => .int
  | 5 => (.array (.object "HashedLearner$Example"))
  | 6 => .int
  | 7 => (.object "HashedLearner$Terms")
  | 8 => (.object "HashedLearner$Loss")
  | 9 => (.object "HashedLearner$Tally")
  | 10 => (.object "HashedLearner$Table")
  | 11 => (.array (.object "HashedLearner$Table"))
  | 12 => (.array .boolean)
  | _ => .int
theorem n_H : ∀ a, a < 14 → ∀ b, b < 14 → a ≠ b → (F_H a).2.1 ≠ (F_H b).2.1 := by decide +kernel
theorem t_H_ok : ∀ k, k < 14 → parseFieldDescriptor (F_H k).2.2.1 = some (t_H k) := by decide +kernel
def R_M : String := "HashedLearnerModel"
def F_M : u_T := fun k => match k with
  | 0 => ("HashedLearnerModel", "slots", "I", true)
  | 1 => ("HashedLearnerModel", "lossKind", "I", true)
  | 2 => ("HashedLearnerModel", "rule", "I", true)
  | 3 => ("HashedLearnerModel", "typed", "[I", true)
  | 4 => ("HashedLearnerModel", "size", "I", false)
  | 5 => ("HashedLearnerModel", "text", "[I", true)
  | 6 => ("HashedLearnerModel", "length", "[I", true)
  | 7 => ("HashedLearnerModel", "ring", "I", false)
  | 8 => ("HashedLearnerModel", "store", "I", false)
  | 9 => ("HashedLearnerModel", "began", "Z", false)
  | 10 => ("HashedLearnerModel", "crossings", "I", false)
  | 11 => ("HashedLearnerModel", "left", "[I", true)
  | 12 => ("HashedLearnerModel", "right", "[I", true)
  | 13 => ("HashedLearnerModel", "label", "I", false)
  | 14 => ("HashedLearnerModel", "weightOf", "I", false)
  | 15 => ("HashedLearnerModel", "features", "I", false)
  | 16 => ("HashedLearnerModel", "fHash", "[I", true)
  | 17 => ("HashedLearnerModel", "fValue", "[I", true)
  | 18 => ("HashedLearnerModel", "fLetter", "[I", true)
  | 19 => ("HashedLearnerModel", "spaces", "I", false)
  | 20 => ("HashedLearnerModel", "termCount", "I", false)
  | 21 => ("HashedLearnerModel", "tHash", "[I", true)
  | 22 => ("HashedLearnerModel", "tValue", "[I", true)
  | 23 => ("HashedLearnerModel", "weights", "[J", true)
  | 24 => ("HashedLearnerModel", "sums", "[J", true)
  | 25 => ("HashedLearnerModel", "scales", "[J", true)
  | 26 => ("HashedLearnerModel", "saved", "[Z", true)
  | 27 => ("HashedLearnerModel", "total", "J", false)
  | 28 => ("HashedLearnerModel", "labelled", "I", false)
  | 29 => ("HashedLearnerModel", "part", "J", false)
  | 30 => ("HashedLearnerModel", "partWeight", "J", false)
  | 31 => ("HashedLearnerModel", "reports", "I", false)
  | 32 => ("HashedLearnerModel", "report", "[J", true)
  | _ => ("HashedLearnerModel", "warned", "I", false)
def t_M : Nat → FieldType := fun k => match k with
  | 0 => .int
  | 1 => .int
  | 2 => .int
  | 3 => (.array .int)
  | 4 => .int
  | 5 => (.array .int)
  | 6 => (.array .int)
  | 7 => .int
  | 8 => .int
  | 9 => .boolean
  | 10 => .int
  | 11 => (.array .int)
  | 12 => (.array .int)
  | 13 => .int
  | 14 => .int
  | 15 => .int
  | 16 => (.array .int)
  | 17 => (.array .int)
  | 18 => (.array .int)
  | 19 => .int
  | 20 => .int
  | 21 => (.array .int)
  | 22 => (.array .int)
  | 23 => (.array .long)
  | 24 => (.array .long)
  | 25 => (.array .long)
  | 26 => (.array .boolean)
  | 27 => .long
  | 28 => .int
  | 29 => .long
  | 30 => .long
  | 31 => .int
  | 32 => (.array .long)
  | _ => .int
theorem n_M : ∀ a, a < 34 → ∀ b, b < 34 → a ≠ b → (F_M a).2.1 ≠ (F_M b).2.1 := by decide +kernel
theorem t_M_ok : ∀ k, k < 34 → parseFieldDescriptor (F_M k).2.2.1 = some (t_M k) := by decide +kernel
abbrev hq_cl : List vw_C := [(R_Crossings, F_Crossings, 4), (R_Example, F_Example, 7), (R_Line, F_Line, 7), (R_Loss, F_Loss, 1), (R_Table, F_Table, 4), (R_Tally, F_Tally, 6), (R_Terms, F_Terms, 3), (R_H, F_H, 14), (R_M, F_M, 34)]
abbrev b_H_init : ByteArray := prog_1_method_1_code
def y_H_init : MethodName := ⟨"HashedLearner", "<init>", "(III)V"⟩
abbrev b_Line_init : ByteArray := prog_4_method_1_code
def y_Line_init : MethodName := ⟨"HashedLearner$Line", "<init>", "()V"⟩
abbrev b_Crossings_init : ByteArray := prog_2_method_1_code
def y_Crossings_init : MethodName := ⟨"HashedLearner$Crossings", "<init>", "()V"⟩
abbrev b_Terms_init : ByteArray := prog_9_method_1_code
def y_Terms_init : MethodName := ⟨"HashedLearner$Terms", "<init>", "()V"⟩
abbrev b_Tally_init : ByteArray := prog_8_method_1_code
def y_Tally_init : MethodName := ⟨"HashedLearner$Tally", "<init>", "()V"⟩
abbrev b_Loss_init : ByteArray := prog_5_method_1_code
def y_Loss_init : MethodName := ⟨"HashedLearner$Loss", "<init>", "(I)V"⟩
abbrev b_Table_init : ByteArray := prog_7_method_1_code
def y_Table_init : MethodName := ⟨"HashedLearner$Table", "<init>", "(II)V"⟩
abbrev b_Example_init : ByteArray := prog_3_method_1_code
def y_Example_init : MethodName := ⟨"HashedLearner$Example", "<init>", "()V"⟩
abbrev b_H_write : ByteArray := prog_1_method_2_code
def y_H_write : MethodName := ⟨"HashedLearner", "write", "(C)Z"⟩
abbrev b_Line_append : ByteArray := prog_4_method_2_code
def y_Line_append : MethodName := ⟨"HashedLearner$Line", "append", "(C)Z"⟩
abbrev b_H_isTypeable : ByteArray := prog_1_method_27_code
def y_H_isTypeable : MethodName := ⟨"HashedLearner", "isTypeable", "(C)Z"⟩
abbrev b_H_cross : ByteArray := prog_1_method_3_code
def y_H_cross : MethodName := ⟨"HashedLearner", "cross", "(CC)Z"⟩
abbrev b_Crossings_add : ByteArray := prog_2_method_2_code
def y_Crossings_add : MethodName := ⟨"HashedLearner$Crossings", "add", "(CC)Z"⟩
abbrev b_Crossings_isLetter : ByteArray := prog_2_method_5_code
def y_Crossings_isLetter : MethodName := ⟨"HashedLearner$Crossings", "isLetter", "(C)Z"⟩
abbrev b_Crossings_contains : ByteArray := prog_2_method_4_code
def y_Crossings_contains : MethodName := ⟨"HashedLearner$Crossings", "contains", "(CC)Z"⟩
abbrev b_H_line : ByteArray := prog_1_method_4_code
def y_H_line : MethodName := ⟨"HashedLearner", "line", "()I"⟩
abbrev b_Line_readInto : ByteArray := prog_4_method_4_code
def y_Line_readInto : MethodName := ⟨"HashedLearner$Line", "readInto", "(LHashedLearner$Example;)Z"⟩
abbrev b_Line_find : ByteArray := prog_4_method_12_code
def y_Line_find : MethodName := ⟨"HashedLearner$Line", "find", "(CII)I"⟩
abbrev b_Line_readHead : ByteArray := prog_4_method_5_code
def y_Line_readHead : MethodName := ⟨"HashedLearner$Line", "readHead", "(ILHashedLearner$Example;)Z"⟩
abbrev b_Line_skipSpaces : ByteArray := prog_4_method_13_code
def y_Line_skipSpaces : MethodName := ⟨"HashedLearner$Line", "skipSpaces", "(II)I"⟩
abbrev b_Line_readNumber : ByteArray := prog_4_method_11_code
def y_Line_readNumber : MethodName := ⟨"HashedLearner$Line", "readNumber", "(II)I"⟩
abbrev b_H_areDigits : ByteArray := prog_1_method_28_code
def y_H_areDigits : MethodName := ⟨"HashedLearner", "areDigits", "([CIII)Z"⟩
abbrev b_H_digitsToInt : ByteArray := prog_1_method_29_code
def y_H_digitsToInt : MethodName := ⟨"HashedLearner", "digitsToInt", "([CII)I"⟩
abbrev b_Line_readImportance : ByteArray := prog_4_method_6_code
def y_Line_readImportance : MethodName := ⟨"HashedLearner$Line", "readImportance", "(IILHashedLearner$Example;)Z"⟩
abbrev b_Line_readNamespace : ByteArray := prog_4_method_7_code
def y_Line_readNamespace : MethodName := ⟨"HashedLearner$Line", "readNamespace", "(IILHashedLearner$Example;)Z"⟩
abbrev b_Line_readTitle : ByteArray := prog_4_method_8_code
def y_Line_readTitle : MethodName := ⟨"HashedLearner$Line", "readTitle", "(II)Z"⟩
abbrev b_Line_readPart : ByteArray := prog_4_method_10_code
def y_Line_readPart : MethodName := ⟨"HashedLearner$Line", "readPart", "(II)Z"⟩
abbrev b_NameHash_of : ByteArray := prog_6_method_2_code
def y_NameHash_of : MethodName := ⟨"HashedLearner$NameHash", "of", "([CIII)I"⟩
abbrev b_NameHash_block : ByteArray := prog_6_method_3_code
def y_NameHash_block : MethodName := ⟨"HashedLearner$NameHash", "block", "([CII)I"⟩
abbrev b_NameHash_mixed : ByteArray := prog_6_method_4_code
def y_NameHash_mixed : MethodName := ⟨"HashedLearner$NameHash", "mixed", "(I)I"⟩
abbrev b_NameHash_roll : ByteArray := prog_6_method_6_code
def y_NameHash_roll : MethodName := ⟨"HashedLearner$NameHash", "roll", "(II)I"⟩
abbrev b_NameHash_finished : ByteArray := prog_6_method_5_code
def y_NameHash_finished : MethodName := ⟨"HashedLearner$NameHash", "finished", "(I)I"⟩
abbrev b_Line_readFeature : ByteArray := prog_4_method_9_code
def y_Line_readFeature : MethodName := ⟨"HashedLearner$Line", "readFeature", "(IILHashedLearner$Example;)Z"⟩
abbrev b_H_clip : ByteArray := prog_1_method_25_code
def y_H_clip : MethodName := ⟨"HashedLearner", "clip", "(JJ)J"⟩
abbrev b_Example_addFeature : ByteArray := prog_3_method_2_code
def y_Example_addFeature : MethodName := ⟨"HashedLearner$Example", "addFeature", "(CII)Z"⟩
abbrev b_Line_clear : ByteArray := prog_4_method_3_code
def y_Line_clear : MethodName := ⟨"HashedLearner$Line", "clear", "()V"⟩
abbrev b_Crossings_close : ByteArray := prog_2_method_3_code
def y_Crossings_close : MethodName := ⟨"HashedLearner$Crossings", "close", "()V"⟩
abbrev b_H_learn : ByteArray := prog_1_method_5_code
def y_H_learn : MethodName := ⟨"HashedLearner", "learn", "()I"⟩
abbrev b_H_predictionFor : ByteArray := prog_1_method_22_code
def y_H_predictionFor : MethodName := ⟨"HashedLearner", "predictionFor", "(LHashedLearner$Example;)I"⟩
abbrev b_Terms_expand : ByteArray := prog_9_method_2_code
def y_Terms_expand : MethodName := ⟨"HashedLearner$Terms", "expand", "(LHashedLearner$Example;LHashedLearner$Crossings;)V"⟩
abbrev b_Terms_add : ByteArray := prog_9_method_5_code
def y_Terms_add : MethodName := ⟨"HashedLearner$Terms", "add", "(II)V"⟩
abbrev b_Terms_addCrossing : ByteArray := prog_9_method_3_code
def y_Terms_addCrossing : MethodName := ⟨"HashedLearner$Terms", "addCrossing", "(LHashedLearner$Example;CC)V"⟩
abbrev b_Terms_addPairs : ByteArray := prog_9_method_4_code
def y_Terms_addPairs : MethodName := ⟨"HashedLearner$Terms", "addPairs", "(LHashedLearner$Example;IC)V"⟩
abbrev b_Table_predict : ByteArray := prog_7_method_5_code
def y_Table_predict : MethodName := ⟨"HashedLearner$Table", "predict", "(LHashedLearner$Terms;)I"⟩
abbrev b_Table_slotOf : ByteArray := prog_7_method_3_code
def y_Table_slotOf : MethodName := ⟨"HashedLearner$Table", "slotOf", "(I)I"⟩
abbrev b_Loss_costOf : ByteArray := prog_5_method_3_code
def y_Loss_costOf : MethodName := ⟨"HashedLearner$Loss", "costOf", "(II)J"⟩
abbrev b_Loss_sideOf : ByteArray := prog_5_method_4_code
def y_Loss_sideOf : MethodName := ⟨"HashedLearner$Loss", "sideOf", "(I)I"⟩
abbrev b_Tally_count : ByteArray := prog_8_method_2_code
def y_Tally_count : MethodName := ⟨"HashedLearner$Tally", "count", "(JI)V"⟩
abbrev b_Tally_isPowerOfTwo : ByteArray := prog_8_method_4_code
def y_Tally_isPowerOfTwo : MethodName := ⟨"HashedLearner$Tally", "isPowerOfTwo", "(I)Z"⟩
abbrev b_Tally_addReport : ByteArray := prog_8_method_3_code
def y_Tally_addReport : MethodName := ⟨"HashedLearner$Tally", "addReport", "()V"⟩
abbrev b_H_teach : ByteArray := prog_1_method_23_code
def y_H_teach : MethodName := ⟨"HashedLearner", "teach", "(LHashedLearner$Example;)V"⟩
abbrev b_Loss_gradientOf : ByteArray := prog_5_method_2_code
def y_Loss_gradientOf : MethodName := ⟨"HashedLearner$Loss", "gradientOf", "(II)I"⟩
abbrev b_Table_moveAll : ByteArray := prog_7_method_6_code
def y_Table_moveAll : MethodName := ⟨"HashedLearner$Table", "moveAll", "(LHashedLearner$Terms;I)V"⟩
abbrev b_Table_moveByRule1 : ByteArray := prog_7_method_8_code
def y_Table_moveByRule1 : MethodName := ⟨"HashedLearner$Table", "moveByRule1", "(IJ)V"⟩
abbrev b_H_root : ByteArray := prog_1_method_26_code
def y_H_root : MethodName := ⟨"HashedLearner", "root", "(J)J"⟩
abbrev b_Table_moveByRule0 : ByteArray := prog_7_method_7_code
def y_Table_moveByRule0 : MethodName := ⟨"HashedLearner$Table", "moveByRule0", "(IIJ)V"⟩
abbrev b_H_keepOldest : ByteArray := prog_1_method_24_code
def y_H_keepOldest : MethodName := ⟨"HashedLearner", "keepOldest", "()V"⟩
abbrev b_H_peek : ByteArray := prog_1_method_6_code
def y_H_peek : MethodName := ⟨"HashedLearner", "peek", "()I"⟩
abbrev b_H_pass : ByteArray := prog_1_method_7_code
def y_H_pass : MethodName := ⟨"HashedLearner", "pass", "()I"⟩
abbrev b_H_waiting : ByteArray := prog_1_method_8_code
def y_H_waiting : MethodName := ⟨"HashedLearner", "waiting", "()I"⟩
abbrev b_H_terms : ByteArray := prog_1_method_9_code
def y_H_terms : MethodName := ⟨"HashedLearner", "terms", "()I"⟩
abbrev b_H_index : ByteArray := prog_1_method_10_code
def y_H_index : MethodName := ⟨"HashedLearner", "index", "(I)I"⟩
abbrev b_H_hasTerm : ByteArray := prog_1_method_21_code
def y_H_hasTerm : MethodName := ⟨"HashedLearner", "hasTerm", "(I)Z"⟩
abbrev b_H_value : ByteArray := prog_1_method_11_code
def y_H_value : MethodName := ⟨"HashedLearner", "value", "(I)I"⟩
abbrev b_H_hash : ByteArray := prog_1_method_12_code
def y_H_hash : MethodName := ⟨"HashedLearner", "hash", "(I)I"⟩
abbrev b_H_weight : ByteArray := prog_1_method_13_code
def y_H_weight : MethodName := ⟨"HashedLearner", "weight", "(I)I"⟩
abbrev b_Table_has : ByteArray := prog_7_method_2_code
def y_Table_has : MethodName := ⟨"HashedLearner$Table", "has", "(I)Z"⟩
abbrev b_H_sum : ByteArray := prog_1_method_14_code
def y_H_sum : MethodName := ⟨"HashedLearner", "sum", "(I)J"⟩
abbrev b_H_scale : ByteArray := prog_1_method_15_code
def y_H_scale : MethodName := ⟨"HashedLearner", "scale", "(I)J"⟩
abbrev b_H_save : ByteArray := prog_1_method_16_code
def y_H_save : MethodName := ⟨"HashedLearner", "save", "(I)Z"⟩
abbrev b_Table_copyFrom : ByteArray := prog_7_method_4_code
def y_Table_copyFrom : MethodName := ⟨"HashedLearner$Table", "copyFrom", "(LHashedLearner$Table;)V"⟩
abbrev b_H_load : ByteArray := prog_1_method_17_code
def y_H_load : MethodName := ⟨"HashedLearner", "load", "(I)Z"⟩
abbrev b_H_loss : ByteArray := prog_1_method_18_code
def y_H_loss : MethodName := ⟨"HashedLearner", "loss", "()J"⟩
abbrev b_H_report : ByteArray := prog_1_method_19_code
def y_H_report : MethodName := ⟨"HashedLearner", "report", "(I)J"⟩
abbrev b_H_warnings : ByteArray := prog_1_method_20_code
def y_H_warnings : MethodName := ⟨"HashedLearner", "warnings", "()I"⟩
abbrev b_Law_cell : ByteArray := method_2_code
def y_Law_cell : MethodName := ⟨"HashedLearnerLaw", "cell", "([II)I"⟩
abbrev b_M_init : ByteArray := prog_11_method_1_code
def y_M_init : MethodName := ⟨"HashedLearnerModel", "<init>", "(III)V"⟩
abbrev b_M_write : ByteArray := prog_11_method_4_code
def y_M_write : MethodName := ⟨"HashedLearnerModel", "write", "(C)Z"⟩
abbrev b_M_cross : ByteArray := prog_11_method_6_code
def y_M_cross : MethodName := ⟨"HashedLearnerModel", "cross", "(CC)Z"⟩
abbrev b_M_letter : ByteArray := prog_11_method_5_code
def y_M_letter : MethodName := ⟨"HashedLearnerModel", "letter", "(C)Z"⟩
abbrev b_M_line : ByteArray := prog_11_method_33_code
def y_M_line : MethodName := ⟨"HashedLearnerModel", "line", "()I"⟩
abbrev b_M_parse : ByteArray := prog_11_method_18_code
def y_M_parse : MethodName := ⟨"HashedLearnerModel", "parse", "(I)Z"⟩
abbrev b_M_find : ByteArray := prog_11_method_13_code
def y_M_find : MethodName := ⟨"HashedLearnerModel", "find", "(III)I"⟩
abbrev b_M_head : ByteArray := prog_11_method_14_code
def y_M_head : MethodName := ⟨"HashedLearnerModel", "head", "(II)Z"⟩
abbrev b_M_begin : ByteArray := prog_11_method_11_code
def y_M_begin : MethodName := ⟨"HashedLearnerModel", "begin", "(II)I"⟩
abbrev b_M_end : ByteArray := prog_11_method_12_code
def y_M_end : MethodName := ⟨"HashedLearnerModel", "end", "(II)I"⟩
abbrev b_M_number : ByteArray := prog_11_method_10_code
def y_M_number : MethodName := ⟨"HashedLearnerModel", "number", "(II)I"⟩
abbrev b_M_digits : ByteArray := prog_11_method_8_code
def y_M_digits : MethodName := ⟨"HashedLearnerModel", "digits", "(II)I"⟩
abbrev b_M_digit : ByteArray := prog_11_method_7_code
def y_M_digit : MethodName := ⟨"HashedLearnerModel", "digit", "(I)Z"⟩
abbrev b_M_read : ByteArray := prog_11_method_9_code
def y_M_read : MethodName := ⟨"HashedLearnerModel", "read", "(II)I"⟩
abbrev b_M_namespace : ByteArray := prog_11_method_17_code
def y_M_namespace : MethodName := ⟨"HashedLearnerModel", "namespace", "(II)Z"⟩
abbrev b_M_nameEnd : ByteArray := prog_11_method_15_code
def y_M_nameEnd : MethodName := ⟨"HashedLearnerModel", "nameEnd", "(II)I"⟩
abbrev b_M_hashOf : ByteArray := prog_11_method_22_code
def y_M_hashOf : MethodName := ⟨"HashedLearnerModel", "hashOf", "(III)I"⟩
abbrev b_M_block : ByteArray := prog_11_method_21_code
def y_M_block : MethodName := ⟨"HashedLearnerModel", "block", "(II)I"⟩
abbrev b_M_mixed : ByteArray := prog_11_method_20_code
def y_M_mixed : MethodName := ⟨"HashedLearnerModel", "mixed", "(I)I"⟩
abbrev b_M_roll : ByteArray := prog_11_method_19_code
def y_M_roll : MethodName := ⟨"HashedLearnerModel", "roll", "(II)I"⟩
abbrev b_M_amount : ByteArray := prog_11_method_16_code
def y_M_amount : MethodName := ⟨"HashedLearnerModel", "amount", "(II)I"⟩
abbrev b_M_clip : ByteArray := prog_11_method_2_code
def y_M_clip : MethodName := ⟨"HashedLearnerModel", "clip", "(JJ)J"⟩
abbrev b_M_learn : ByteArray := prog_11_method_35_code
def y_M_learn : MethodName := ⟨"HashedLearnerModel", "learn", "()I"⟩
abbrev b_M_spread : ByteArray := prog_11_method_24_code
def y_M_spread : MethodName := ⟨"HashedLearnerModel", "spread", "(I)V"⟩
abbrev b_M_term : ByteArray := prog_11_method_23_code
def y_M_term : MethodName := ⟨"HashedLearnerModel", "term", "(IJ)V"⟩
abbrev b_M_predict : ByteArray := prog_11_method_26_code
def y_M_predict : MethodName := ⟨"HashedLearnerModel", "predict", "()J"⟩
abbrev b_M_slot : ByteArray := prog_11_method_25_code
def y_M_slot : MethodName := ⟨"HashedLearnerModel", "slot", "(I)I"⟩
abbrev b_M_account : ByteArray := prog_11_method_34_code
def y_M_account : MethodName := ⟨"HashedLearnerModel", "account", "(J)V"⟩
abbrev b_M_cost : ByteArray := prog_11_method_28_code
def y_M_cost : MethodName := ⟨"HashedLearnerModel", "cost", "(J)J"⟩
abbrev b_M_learnIt : ByteArray := prog_11_method_31_code
def y_M_learnIt : MethodName := ⟨"HashedLearnerModel", "learnIt", "(I)V"⟩
abbrev b_M_gradient : ByteArray := prog_11_method_27_code
def y_M_gradient : MethodName := ⟨"HashedLearnerModel", "gradient", "(J)J"⟩
abbrev b_M_scaled : ByteArray := prog_11_method_29_code
def y_M_scaled : MethodName := ⟨"HashedLearnerModel", "scaled", "(IJJ)V"⟩
abbrev b_M_root : ByteArray := prog_11_method_3_code
def y_M_root : MethodName := ⟨"HashedLearnerModel", "root", "(J)J"⟩
abbrev b_M_followed : ByteArray := prog_11_method_30_code
def y_M_followed : MethodName := ⟨"HashedLearnerModel", "followed", "(IJ)V"⟩
abbrev b_M_copyLine : ByteArray := prog_11_method_32_code
def y_M_copyLine : MethodName := ⟨"HashedLearnerModel", "copyLine", "(II)V"⟩
abbrev b_M_peek : ByteArray := prog_11_method_36_code
def y_M_peek : MethodName := ⟨"HashedLearnerModel", "peek", "()I"⟩
abbrev b_M_pass : ByteArray := prog_11_method_37_code
def y_M_pass : MethodName := ⟨"HashedLearnerModel", "pass", "()I"⟩
abbrev b_M_waiting : ByteArray := prog_11_method_38_code
def y_M_waiting : MethodName := ⟨"HashedLearnerModel", "waiting", "()I"⟩
abbrev b_M_terms : ByteArray := prog_11_method_39_code
def y_M_terms : MethodName := ⟨"HashedLearnerModel", "terms", "()I"⟩
abbrev b_M_index : ByteArray := prog_11_method_40_code
def y_M_index : MethodName := ⟨"HashedLearnerModel", "index", "(I)I"⟩
abbrev b_M_value : ByteArray := prog_11_method_41_code
def y_M_value : MethodName := ⟨"HashedLearnerModel", "value", "(I)I"⟩
abbrev b_M_hash : ByteArray := prog_11_method_42_code
def y_M_hash : MethodName := ⟨"HashedLearnerModel", "hash", "(I)I"⟩
abbrev b_M_weight : ByteArray := prog_11_method_43_code
def y_M_weight : MethodName := ⟨"HashedLearnerModel", "weight", "(I)I"⟩
abbrev b_M_sum : ByteArray := prog_11_method_44_code
def y_M_sum : MethodName := ⟨"HashedLearnerModel", "sum", "(I)J"⟩
abbrev b_M_scale : ByteArray := prog_11_method_45_code
def y_M_scale : MethodName := ⟨"HashedLearnerModel", "scale", "(I)J"⟩
abbrev b_M_save : ByteArray := prog_11_method_47_code
def y_M_save : MethodName := ⟨"HashedLearnerModel", "save", "(I)Z"⟩
abbrev b_M_copyTable : ByteArray := prog_11_method_46_code
def y_M_copyTable : MethodName := ⟨"HashedLearnerModel", "copyTable", "(II)V"⟩
abbrev b_M_load : ByteArray := prog_11_method_48_code
def y_M_load : MethodName := ⟨"HashedLearnerModel", "load", "(I)Z"⟩
abbrev b_M_loss : ByteArray := prog_11_method_49_code
def y_M_loss : MethodName := ⟨"HashedLearnerModel", "loss", "()J"⟩
abbrev b_M_report : ByteArray := prog_11_method_50_code
def y_M_report : MethodName := ⟨"HashedLearnerModel", "report", "(I)J"⟩
abbrev b_M_warnings : ByteArray := prog_11_method_51_code
def y_M_warnings : MethodName := ⟨"HashedLearnerModel", "warnings", "()I"⟩

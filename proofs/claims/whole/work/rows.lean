section
-- ===== PART A: goes FIRST, ahead of the names: the tables' words, and 'selects' of the private methods out of them =====
/-- a private method of a class that the tables say can be made, by its rows of tables_1 -/
def lw_okq (q : MethodName × Nat) : Prop := (q.1.cls ≠ "java/lang/invoke/MethodHandle" ∧ q.1.cls ≠ "java/lang/invoke/VarHandle") ∧ Cond.instantiable q.1.cls q.2 ∈ tables_1 ∧ Cond.privateMethod q.1 ∈ tables_1 ∧ Cond.instanceMethod q.1 ∈ tables_1
theorem lw_p0 : lw_okq (⟨"LoopJudge", "countRoots", "(III)I"⟩, 11) := ⟨⟨by decide +kernel, by decide +kernel⟩, List.mem_of_getElem? (i := 15) (by decide +kernel), List.mem_of_getElem? (i := 297) (by decide +kernel), List.mem_of_getElem? (i := 298) (by decide +kernel)⟩
theorem lw_p1 : lw_okq (⟨"LoopJudge$Chain", "addHalf", "([JI)V"⟩, 3) := ⟨⟨by decide +kernel, by decide +kernel⟩, List.mem_of_getElem? (i := 128) (by decide +kernel), List.mem_of_getElem? (i := 310) (by decide +kernel), List.mem_of_getElem? (i := 311) (by decide +kernel)⟩
theorem lw_p2 : lw_okq (⟨"LoopJudge$Chain", "addUnlessZero", "()V"⟩, 3) := ⟨⟨by decide +kernel, by decide +kernel⟩, List.mem_of_getElem? (i := 128) (by decide +kernel), List.mem_of_getElem? (i := 314) (by decide +kernel), List.mem_of_getElem? (i := 315) (by decide +kernel)⟩
theorem lw_p3 : lw_okq (⟨"LoopJudge$Chain", "addRemainder", "(I)V"⟩, 3) := ⟨⟨by decide +kernel, by decide +kernel⟩, List.mem_of_getElem? (i := 128) (by decide +kernel), List.mem_of_getElem? (i := 318) (by decide +kernel), List.mem_of_getElem? (i := 319) (by decide +kernel)⟩
theorem lw_p4 : lw_okq (⟨"LoopJudge$Judge", "countByChain", "()V"⟩, 5) := ⟨⟨by decide +kernel, by decide +kernel⟩, List.mem_of_getElem? (i := 122) (by decide +kernel), List.mem_of_getElem? (i := 336) (by decide +kernel), List.mem_of_getElem? (i := 337) (by decide +kernel)⟩
theorem lw_p5 : lw_okq (⟨"LoopJudge$Judge", "signTurns", "()I"⟩, 5) := ⟨⟨by decide +kernel, by decide +kernel⟩, List.mem_of_getElem? (i := 122) (by decide +kernel), List.mem_of_getElem? (i := 340) (by decide +kernel), List.mem_of_getElem? (i := 341) (by decide +kernel)⟩
theorem lw_p6 : lw_okq (⟨"LoopJudge$Judge", "turn", "([J)V"⟩, 5) := ⟨⟨by decide +kernel, by decide +kernel⟩, List.mem_of_getElem? (i := 122) (by decide +kernel), List.mem_of_getElem? (i := 351) (by decide +kernel), List.mem_of_getElem? (i := 352) (by decide +kernel)⟩
theorem lw_p7 : lw_okq (⟨"LoopJudge", "bookOf", "(I)LLoopJudge$SpanBook;"⟩, 11) := ⟨⟨by decide +kernel, by decide +kernel⟩, List.mem_of_getElem? (i := 15) (by decide +kernel), List.mem_of_getElem? (i := 382) (by decide +kernel), List.mem_of_getElem? (i := 383) (by decide +kernel)⟩
theorem lw_p8 : lw_okq (⟨"LoopJudge$SpanBook", "isOf", "(LLoopJudge$Setting;)Z"⟩, 9) := ⟨⟨by decide +kernel, by decide +kernel⟩, List.mem_of_getElem? (i := 170) (by decide +kernel), List.mem_of_getElem? (i := 390) (by decide +kernel), List.mem_of_getElem? (i := 391) (by decide +kernel)⟩
theorem lw_p9 : lw_okq (⟨"LoopJudge$SpanBook", "collect", "(LLoopJudge$Setting;LLoopJudge$Judge;)V"⟩, 9) := ⟨⟨by decide +kernel, by decide +kernel⟩, List.mem_of_getElem? (i := 170) (by decide +kernel), List.mem_of_getElem? (i := 395) (by decide +kernel), List.mem_of_getElem? (i := 396) (by decide +kernel)⟩
theorem lw_p10 : lw_okq (⟨"LoopJudge$SpanBook", "addGain", "(I)V"⟩, 9) := ⟨⟨by decide +kernel, by decide +kernel⟩, List.mem_of_getElem? (i := 170) (by decide +kernel), List.mem_of_getElem? (i := 407) (by decide +kernel), List.mem_of_getElem? (i := 408) (by decide +kernel)⟩
theorem lw_p11 : lw_okq (⟨"LoopJudge$SpanBook", "orderByWidth", "()V"⟩, 9) := ⟨⟨by decide +kernel, by decide +kernel⟩, List.mem_of_getElem? (i := 170) (by decide +kernel), List.mem_of_getElem? (i := 411) (by decide +kernel), List.mem_of_getElem? (i := 412) (by decide +kernel)⟩
theorem lw_p12 : lw_okq (⟨"LoopJudge$SpanBook", "widthOf", "(I)I"⟩, 9) := ⟨⟨by decide +kernel, by decide +kernel⟩, List.mem_of_getElem? (i := 170) (by decide +kernel), List.mem_of_getElem? (i := 415) (by decide +kernel), List.mem_of_getElem? (i := 416) (by decide +kernel)⟩
theorem lw_p13 : lw_okq (⟨"LoopJudge$Tape", "readTerms", "(I)I"⟩, 7) := ⟨⟨by decide +kernel, by decide +kernel⟩, List.mem_of_getElem? (i := 68) (by decide +kernel), List.mem_of_getElem? (i := 477) (by decide +kernel), List.mem_of_getElem? (i := 478) (by decide +kernel)⟩
theorem lw_p14 : lw_okq (⟨"LoopJudge$Tape", "nextLetter", "()I"⟩, 7) := ⟨⟨by decide +kernel, by decide +kernel⟩, List.mem_of_getElem? (i := 68) (by decide +kernel), List.mem_of_getElem? (i := 481) (by decide +kernel), List.mem_of_getElem? (i := 482) (by decide +kernel)⟩
theorem lw_p15 : lw_okq (⟨"LoopJudge$Tape", "readTerm", "()Z"⟩, 7) := ⟨⟨by decide +kernel, by decide +kernel⟩, List.mem_of_getElem? (i := 68) (by decide +kernel), List.mem_of_getElem? (i := 485) (by decide +kernel), List.mem_of_getElem? (i := 486) (by decide +kernel)⟩
def lw_privs_1 : List (MethodName × Nat) := [(⟨"LoopJudge", "countRoots", "(III)I"⟩, 11), (⟨"LoopJudge$Chain", "addHalf", "([JI)V"⟩, 3), (⟨"LoopJudge$Chain", "addUnlessZero", "()V"⟩, 3), (⟨"LoopJudge$Chain", "addRemainder", "(I)V"⟩, 3), (⟨"LoopJudge$Judge", "countByChain", "()V"⟩, 5), (⟨"LoopJudge$Judge", "signTurns", "()I"⟩, 5), (⟨"LoopJudge$Judge", "turn", "([J)V"⟩, 5), (⟨"LoopJudge", "bookOf", "(I)LLoopJudge$SpanBook;"⟩, 11), (⟨"LoopJudge$SpanBook", "isOf", "(LLoopJudge$Setting;)Z"⟩, 9), (⟨"LoopJudge$SpanBook", "collect", "(LLoopJudge$Setting;LLoopJudge$Judge;)V"⟩, 9), (⟨"LoopJudge$SpanBook", "addGain", "(I)V"⟩, 9), (⟨"LoopJudge$SpanBook", "orderByWidth", "()V"⟩, 9), (⟨"LoopJudge$SpanBook", "widthOf", "(I)I"⟩, 9), (⟨"LoopJudge$Tape", "readTerms", "(I)I"⟩, 7), (⟨"LoopJudge$Tape", "nextLetter", "()I"⟩, 7), (⟨"LoopJudge$Tape", "readTerm", "()Z"⟩, 7)]
theorem lw_r1 : ∀ q ∈ lw_privs_1, lw_okq q := List.forall_mem_cons.mpr ⟨lw_p0, List.forall_mem_cons.mpr ⟨lw_p1, List.forall_mem_cons.mpr ⟨lw_p2, List.forall_mem_cons.mpr ⟨lw_p3, List.forall_mem_cons.mpr ⟨lw_p4, List.forall_mem_cons.mpr ⟨lw_p5, List.forall_mem_cons.mpr ⟨lw_p6, List.forall_mem_cons.mpr ⟨lw_p7, List.forall_mem_cons.mpr ⟨lw_p8, List.forall_mem_cons.mpr ⟨lw_p9, List.forall_mem_cons.mpr ⟨lw_p10, List.forall_mem_cons.mpr ⟨lw_p11, List.forall_mem_cons.mpr ⟨lw_p12, List.forall_mem_cons.mpr ⟨lw_p13, List.forall_mem_cons.mpr ⟨lw_p14, List.forall_mem_cons.mpr ⟨lw_p15, fun _ h => absurd h List.not_mem_nil⟩⟩⟩⟩⟩⟩⟩⟩⟩⟩⟩⟩⟩⟩⟩⟩
theorem lw_p16 : lw_okq (⟨"LoopJudge$Tape", "readPower", "()V"⟩, 7) := ⟨⟨by decide +kernel, by decide +kernel⟩, List.mem_of_getElem? (i := 68) (by decide +kernel), List.mem_of_getElem? (i := 489) (by decide +kernel), List.mem_of_getElem? (i := 490) (by decide +kernel)⟩
theorem lw_p17 : lw_okq (⟨"LoopJudgeModel", "notes", "()V"⟩, 29) := ⟨⟨by decide +kernel, by decide +kernel⟩, List.mem_of_getElem? (i := 587) (by decide +kernel), List.mem_of_getElem? (i := 694) (by decide +kernel), List.mem_of_getElem? (i := 695) (by decide +kernel)⟩
theorem lw_p18 : lw_okq (⟨"LoopJudgeModel", "degreeOf", "(I)I"⟩, 29) := ⟨⟨by decide +kernel, by decide +kernel⟩, List.mem_of_getElem? (i := 587) (by decide +kernel), List.mem_of_getElem? (i := 718) (by decide +kernel), List.mem_of_getElem? (i := 719) (by decide +kernel)⟩
theorem lw_p19 : lw_okq (⟨"LoopJudgeModel", "loops", "(I)V"⟩, 29) := ⟨⟨by decide +kernel, by decide +kernel⟩, List.mem_of_getElem? (i := 587) (by decide +kernel), List.mem_of_getElem? (i := 722) (by decide +kernel), List.mem_of_getElem? (i := 723) (by decide +kernel)⟩
theorem lw_p20 : lw_okq (⟨"LoopJudgeModel", "countsBy", "(I)I"⟩, 29) := ⟨⟨by decide +kernel, by decide +kernel⟩, List.mem_of_getElem? (i := 587) (by decide +kernel), List.mem_of_getElem? (i := 739) (by decide +kernel), List.mem_of_getElem? (i := 740) (by decide +kernel)⟩
theorem lw_p21 : lw_okq (⟨"LoopJudgeModel", "turns", "(I)V"⟩, 29) := ⟨⟨by decide +kernel, by decide +kernel⟩, List.mem_of_getElem? (i := 587) (by decide +kernel), List.mem_of_getElem? (i := 743) (by decide +kernel), List.mem_of_getElem? (i := 744) (by decide +kernel)⟩
theorem lw_p22 : lw_okq (⟨"LoopJudgeModel", "multiplies", "(I)V"⟩, 29) := ⟨⟨by decide +kernel, by decide +kernel⟩, List.mem_of_getElem? (i := 587) (by decide +kernel), List.mem_of_getElem? (i := 747) (by decide +kernel), List.mem_of_getElem? (i := 748) (by decide +kernel)⟩
theorem lw_p23 : lw_okq (⟨"LoopJudgeModel", "counts", "()V"⟩, 29) := ⟨⟨by decide +kernel, by decide +kernel⟩, List.mem_of_getElem? (i := 587) (by decide +kernel), List.mem_of_getElem? (i := 751) (by decide +kernel), List.mem_of_getElem? (i := 752) (by decide +kernel)⟩
theorem lw_p24 : lw_okq (⟨"LoopJudgeModel", "squares", "(JJJ)V"⟩, 29) := ⟨⟨by decide +kernel, by decide +kernel⟩, List.mem_of_getElem? (i := 587) (by decide +kernel), List.mem_of_getElem? (i := 755) (by decide +kernel), List.mem_of_getElem? (i := 756) (by decide +kernel)⟩
theorem lw_p25 : lw_okq (⟨"LoopJudgeModel", "square", "(I)V"⟩, 29) := ⟨⟨by decide +kernel, by decide +kernel⟩, List.mem_of_getElem? (i := 587) (by decide +kernel), List.mem_of_getElem? (i := 762) (by decide +kernel), List.mem_of_getElem? (i := 763) (by decide +kernel)⟩
theorem lw_p26 : lw_okq (⟨"LoopJudgeModel", "more", "(III)V"⟩, 29) := ⟨⟨by decide +kernel, by decide +kernel⟩, List.mem_of_getElem? (i := 587) (by decide +kernel), List.mem_of_getElem? (i := 766) (by decide +kernel), List.mem_of_getElem? (i := 767) (by decide +kernel)⟩
theorem lw_p27 : lw_okq (⟨"LoopJudgeModel", "two", "(JJJ)V"⟩, 29) := ⟨⟨by decide +kernel, by decide +kernel⟩, List.mem_of_getElem? (i := 587) (by decide +kernel), List.mem_of_getElem? (i := 770) (by decide +kernel), List.mem_of_getElem? (i := 771) (by decide +kernel)⟩
theorem lw_p28 : lw_okq (⟨"LoopJudgeModel", "apart", "(I)V"⟩, 29) := ⟨⟨by decide +kernel, by decide +kernel⟩, List.mem_of_getElem? (i := 587) (by decide +kernel), List.mem_of_getElem? (i := 774) (by decide +kernel), List.mem_of_getElem? (i := 775) (by decide +kernel)⟩
theorem lw_p29 : lw_okq (⟨"LoopJudgeModel", "three", "(JJJJ)V"⟩, 29) := ⟨⟨by decide +kernel, by decide +kernel⟩, List.mem_of_getElem? (i := 587) (by decide +kernel), List.mem_of_getElem? (i := 778) (by decide +kernel), List.mem_of_getElem? (i := 779) (by decide +kernel)⟩
theorem lw_p30 : lw_okq (⟨"LoopJudgeModel", "passes", "(I)V"⟩, 29) := ⟨⟨by decide +kernel, by decide +kernel⟩, List.mem_of_getElem? (i := 587) (by decide +kernel), List.mem_of_getElem? (i := 782) (by decide +kernel), List.mem_of_getElem? (i := 783) (by decide +kernel)⟩
theorem lw_p31 : lw_okq (⟨"LoopJudgeModel", "four", "()V"⟩, 29) := ⟨⟨by decide +kernel, by decide +kernel⟩, List.mem_of_getElem? (i := 587) (by decide +kernel), List.mem_of_getElem? (i := 786) (by decide +kernel), List.mem_of_getElem? (i := 787) (by decide +kernel)⟩
def lw_privs_2 : List (MethodName × Nat) := [(⟨"LoopJudge$Tape", "readPower", "()V"⟩, 7), (⟨"LoopJudgeModel", "notes", "()V"⟩, 29), (⟨"LoopJudgeModel", "degreeOf", "(I)I"⟩, 29), (⟨"LoopJudgeModel", "loops", "(I)V"⟩, 29), (⟨"LoopJudgeModel", "countsBy", "(I)I"⟩, 29), (⟨"LoopJudgeModel", "turns", "(I)V"⟩, 29), (⟨"LoopJudgeModel", "multiplies", "(I)V"⟩, 29), (⟨"LoopJudgeModel", "counts", "()V"⟩, 29), (⟨"LoopJudgeModel", "squares", "(JJJ)V"⟩, 29), (⟨"LoopJudgeModel", "square", "(I)V"⟩, 29), (⟨"LoopJudgeModel", "more", "(III)V"⟩, 29), (⟨"LoopJudgeModel", "two", "(JJJ)V"⟩, 29), (⟨"LoopJudgeModel", "apart", "(I)V"⟩, 29), (⟨"LoopJudgeModel", "three", "(JJJJ)V"⟩, 29), (⟨"LoopJudgeModel", "passes", "(I)V"⟩, 29), (⟨"LoopJudgeModel", "four", "()V"⟩, 29)]
theorem lw_r2 : ∀ q ∈ lw_privs_2, lw_okq q := List.forall_mem_cons.mpr ⟨lw_p16, List.forall_mem_cons.mpr ⟨lw_p17, List.forall_mem_cons.mpr ⟨lw_p18, List.forall_mem_cons.mpr ⟨lw_p19, List.forall_mem_cons.mpr ⟨lw_p20, List.forall_mem_cons.mpr ⟨lw_p21, List.forall_mem_cons.mpr ⟨lw_p22, List.forall_mem_cons.mpr ⟨lw_p23, List.forall_mem_cons.mpr ⟨lw_p24, List.forall_mem_cons.mpr ⟨lw_p25, List.forall_mem_cons.mpr ⟨lw_p26, List.forall_mem_cons.mpr ⟨lw_p27, List.forall_mem_cons.mpr ⟨lw_p28, List.forall_mem_cons.mpr ⟨lw_p29, List.forall_mem_cons.mpr ⟨lw_p30, List.forall_mem_cons.mpr ⟨lw_p31, fun _ h => absurd h List.not_mem_nil⟩⟩⟩⟩⟩⟩⟩⟩⟩⟩⟩⟩⟩⟩⟩⟩
theorem lw_p32 : lw_okq (⟨"LoopJudgeModel", "laysRows", "()V"⟩, 29) := ⟨⟨by decide +kernel, by decide +kernel⟩, List.mem_of_getElem? (i := 587) (by decide +kernel), List.mem_of_getElem? (i := 796) (by decide +kernel), List.mem_of_getElem? (i := 797) (by decide +kernel)⟩
theorem lw_p33 : lw_okq (⟨"LoopJudgeModel", "addsRow", "()V"⟩, 29) := ⟨⟨by decide +kernel, by decide +kernel⟩, List.mem_of_getElem? (i := 587) (by decide +kernel), List.mem_of_getElem? (i := 800) (by decide +kernel), List.mem_of_getElem? (i := 801) (by decide +kernel)⟩
theorem lw_p34 : lw_okq (⟨"LoopJudgeModel", "divides", "(I)V"⟩, 29) := ⟨⟨by decide +kernel, by decide +kernel⟩, List.mem_of_getElem? (i := 587) (by decide +kernel), List.mem_of_getElem? (i := 804) (by decide +kernel), List.mem_of_getElem? (i := 805) (by decide +kernel)⟩
theorem lw_p35 : lw_okq (⟨"LoopJudgeModel", "shortens", "()V"⟩, 29) := ⟨⟨by decide +kernel, by decide +kernel⟩, List.mem_of_getElem? (i := 587) (by decide +kernel), List.mem_of_getElem? (i := 808) (by decide +kernel), List.mem_of_getElem? (i := 809) (by decide +kernel)⟩
theorem lw_p36 : lw_okq (⟨"LoopJudgeModel", "laysSpans", "(I)I"⟩, 29) := ⟨⟨by decide +kernel, by decide +kernel⟩, List.mem_of_getElem? (i := 587) (by decide +kernel), List.mem_of_getElem? (i := 828) (by decide +kernel), List.mem_of_getElem? (i := 829) (by decide +kernel)⟩
theorem lw_p37 : lw_okq (⟨"LoopJudgeModel", "isSteady", "(I)Z"⟩, 29) := ⟨⟨by decide +kernel, by decide +kernel⟩, List.mem_of_getElem? (i := 587) (by decide +kernel), List.mem_of_getElem? (i := 832) (by decide +kernel), List.mem_of_getElem? (i := 833) (by decide +kernel)⟩
theorem lw_p38 : lw_okq (⟨"LoopJudgeModel", "terms", "(I)V"⟩, 29) := ⟨⟨by decide +kernel, by decide +kernel⟩, List.mem_of_getElem? (i := 587) (by decide +kernel), List.mem_of_getElem? (i := 869) (by decide +kernel), List.mem_of_getElem? (i := 870) (by decide +kernel)⟩
theorem lw_p39 : lw_okq (⟨"LoopJudgeModel", "looks", "()I"⟩, 29) := ⟨⟨by decide +kernel, by decide +kernel⟩, List.mem_of_getElem? (i := 587) (by decide +kernel), List.mem_of_getElem? (i := 873) (by decide +kernel), List.mem_of_getElem? (i := 874) (by decide +kernel)⟩
theorem lw_p40 : lw_okq (⟨"LoopJudgeModel", "goesBy", "(Z)Z"⟩, 29) := ⟨⟨by decide +kernel, by decide +kernel⟩, List.mem_of_getElem? (i := 587) (by decide +kernel), List.mem_of_getElem? (i := 877) (by decide +kernel), List.mem_of_getElem? (i := 878) (by decide +kernel)⟩
theorem lw_p41 : lw_okq (⟨"LoopJudgeModel", "term", "(III)I"⟩, 29) := ⟨⟨by decide +kernel, by decide +kernel⟩, List.mem_of_getElem? (i := 587) (by decide +kernel), List.mem_of_getElem? (i := 881) (by decide +kernel), List.mem_of_getElem? (i := 882) (by decide +kernel)⟩
theorem lw_p42 : lw_okq (⟨"LoopJudgeModel", "found", "(IIII)I"⟩, 29) := ⟨⟨by decide +kernel, by decide +kernel⟩, List.mem_of_getElem? (i := 587) (by decide +kernel), List.mem_of_getElem? (i := 921) (by decide +kernel), List.mem_of_getElem? (i := 922) (by decide +kernel)⟩
def lw_privs_3 : List (MethodName × Nat) := [(⟨"LoopJudgeModel", "laysRows", "()V"⟩, 29), (⟨"LoopJudgeModel", "addsRow", "()V"⟩, 29), (⟨"LoopJudgeModel", "divides", "(I)V"⟩, 29), (⟨"LoopJudgeModel", "shortens", "()V"⟩, 29), (⟨"LoopJudgeModel", "laysSpans", "(I)I"⟩, 29), (⟨"LoopJudgeModel", "isSteady", "(I)Z"⟩, 29), (⟨"LoopJudgeModel", "terms", "(I)V"⟩, 29), (⟨"LoopJudgeModel", "looks", "()I"⟩, 29), (⟨"LoopJudgeModel", "goesBy", "(Z)Z"⟩, 29), (⟨"LoopJudgeModel", "term", "(III)I"⟩, 29), (⟨"LoopJudgeModel", "found", "(IIII)I"⟩, 29)]
theorem lw_r3 : ∀ q ∈ lw_privs_3, lw_okq q := List.forall_mem_cons.mpr ⟨lw_p32, List.forall_mem_cons.mpr ⟨lw_p33, List.forall_mem_cons.mpr ⟨lw_p34, List.forall_mem_cons.mpr ⟨lw_p35, List.forall_mem_cons.mpr ⟨lw_p36, List.forall_mem_cons.mpr ⟨lw_p37, List.forall_mem_cons.mpr ⟨lw_p38, List.forall_mem_cons.mpr ⟨lw_p39, List.forall_mem_cons.mpr ⟨lw_p40, List.forall_mem_cons.mpr ⟨lw_p41, List.forall_mem_cons.mpr ⟨lw_p42, fun _ h => absurd h List.not_mem_nil⟩⟩⟩⟩⟩⟩⟩⟩⟩⟩⟩
def lw_privs : List (MethodName × Nat) := lw_privs_1 ++ (lw_privs_2 ++ (lw_privs_3))
def lw_tbl : List Cond := k2_sels lw_privs ++ tables_1
theorem lw_privs_ok : ∀ q ∈ lw_privs, lw_okq q := by
  show ∀ q ∈ lw_privs_1 ++ (lw_privs_2 ++ (lw_privs_3)), lw_okq q
  exact List.forall_mem_append.mpr ⟨lw_r1, List.forall_mem_append.mpr ⟨lw_r2, lw_r3⟩⟩
end
section
/-! ===== BEGIN words of one list among another's, by their places ===== -/
theorem goodIn_r {big : List Cond} (ws : List Cond) (ps : List Nat) (hp : ws = ps.filterMap (fun i => big[i]?)) (h : ws.all goodWord = true) : GoodIn big ws := by
  intro w hw
  have h1 := List.all_eq_true.mp h w hw
  rw [hp] at hw
  obtain ⟨i, -, hi⟩ := List.mem_filterMap.mp hw
  have hm : w ∈ big := by first | exact List.mem_of_getElem? hi | exact List.getElem?_mem hi
  exact ⟨hm, good_of_word h1⟩
theorem goodIn_app {big a b : List Cond} (ha : GoodIn big a) (hb : GoodIn big b) : GoodIn big (a ++ b) := fun w h => (List.mem_append.mp h).elim (ha w) (hb w)
theorem goodIn_ca {big a b : List Cond} {c : Cond} (ha : GoodIn big (c :: a)) (hb : GoodIn big b) : GoodIn big (c :: (a ++ b)) := fun w h => (List.mem_cons.mp h).elim (fun e => ha w (List.mem_cons.mpr (Or.inl e))) (fun h => (List.mem_append.mp h).elim (fun h => ha w (List.mem_cons.mpr (Or.inr h))) (hb w))
theorem goodIn_sub {big ws : List Cond} (hm : ∀ w ∈ ws, w ∈ big) (h : ws.all goodWord = true) : GoodIn big ws := fun w hw => ⟨hm w hw, good_of_word (List.all_eq_true.mp h w hw)⟩
/-! ===== END ===== -/

/-! ===== BEGIN printed: names, fields, word lists, decode rows ===== -/
def RX0 : String := "LoopJudge$Chain"
def TX0 : u_T := fun k => match k with
  | 0 => ("LoopJudge$Chain", "lines", "[[J", true)
  | 1 => ("LoopJudge$Chain", "degrees", "[I", true)
  | _ => ("LoopJudge$Chain", "size", "I", false)
def tyX0 : Nat → FieldType := fun k => match k with
  | 0 => .array (.array .long)
  | 1 => .array .int
  | _ => .int
abbrev wsX00 : List Cond := u_ws RX0 TX0 3
theorem nmX0 : ∀ a, a < 3 → ∀ b, b < 3 → a ≠ b → (TX0 a).2.1 ≠ (TX0 b).2.1 := by decide +kernel
theorem tyX0_ok : ∀ k, k < 3 → parseFieldDescriptor (TX0 k).2.2.1 = some (tyX0 k) := by decide +kernel
abbrev cX0_init : ByteArray := prog_2_method_1_code
def yX0_init : MethodName := ⟨RX0, "<init>", "()V"⟩
abbrev cX0_fill : ByteArray := prog_2_method_2_code
def yX0_fill : MethodName := ⟨RX0, "fill", "([J)V"⟩
abbrev cX0_addHalf : ByteArray := prog_2_method_3_code
def yX0_addHalf : MethodName := ⟨RX0, "addHalf", "([JI)V"⟩
abbrev cX0_addRemainder : ByteArray := prog_2_method_4_code
def yX0_addRemainder : MethodName := ⟨RX0, "addRemainder", "(I)V"⟩
abbrev cX0_addUnlessZero : ByteArray := prog_2_method_5_code
def yX0_addUnlessZero : MethodName := ⟨RX0, "addUnlessZero", "()V"⟩
abbrev cX0_strike : ByteArray := prog_2_method_6_code
def yX0_strike : MethodName := ⟨RX0, "strike", "([JI[JI)V"⟩
abbrev cX0_takeLowestTerms : ByteArray := prog_2_method_7_code
def yX0_takeLowestTerms : MethodName := ⟨RX0, "takeLowestTerms", "([J)V"⟩
def RX1 : String := "LoopJudge$Judge"
def TX1 : u_T := fun k => match k with
  | 0 => ("LoopJudge$Judge", "chain", "LLoopJudge$Chain;", true)
  | 1 => ("LoopJudge$Judge", "turned", "[J", true)
  | 2 => ("LoopJudge$Judge", "right", "I", false)
  | 3 => ("LoopJudge$Judge", "even", "I", false)
  | _ => ("LoopJudge$Judge", "left", "I", false)
def tyX1 : Nat → FieldType := fun k => match k with
  | 0 => .object "LoopJudge$Chain"
  | 1 => .array .long
  | 2 => .int
  | 3 => .int
  | _ => .int
abbrev wsX10 : List Cond := u_ws RX1 TX1 5
theorem nmX1 : ∀ a, a < 5 → ∀ b, b < 5 → a ≠ b → (TX1 a).2.1 ≠ (TX1 b).2.1 := by decide +kernel
theorem tyX1_ok : ∀ k, k < 5 → parseFieldDescriptor (TX1 k).2.2.1 = some (tyX1 k) := by decide +kernel
abbrev cX1_init : ByteArray := prog_3_method_1_code
def yX1_init : MethodName := ⟨RX1, "<init>", "()V"⟩
abbrev cX1_countRootsOf : ByteArray := prog_3_method_2_code
def yX1_countRootsOf : MethodName := ⟨RX1, "countRootsOf", "(I[J)V"⟩
abbrev cX1_isSteady : ByteArray := prog_3_method_3_code
def yX1_isSteady : MethodName := ⟨RX1, "isSteady", "(I[J)Z"⟩
abbrev cX1_turn : ByteArray := prog_3_method_4_code
def yX1_turn : MethodName := ⟨RX1, "turn", "([J)V"⟩
abbrev cX1_partBelow : ByteArray := prog_3_method_5_code
def yX1_partBelow : MethodName := ⟨RX1, "partBelow", "([JII)J"⟩
abbrev cX1_countByChain : ByteArray := prog_3_method_6_code
def yX1_countByChain : MethodName := ⟨RX1, "countByChain", "()V"⟩
abbrev cX1_signTurns : ByteArray := prog_3_method_7_code
def yX1_signTurns : MethodName := ⟨RX1, "signTurns", "()I"⟩
abbrev cX1_rootsOnAxis : ByteArray := prog_3_method_8_code
def yX1_rootsOnAxis : MethodName := ⟨RX1, "rootsOnAxis", "([JI)I"⟩
abbrev cX1_rootsOnAxisOfFour : ByteArray := prog_3_method_9_code
def yX1_rootsOnAxisOfFour : MethodName := ⟨RX1, "rootsOnAxisOfFour", "(JJJ)I"⟩
abbrev cX1_isSteadyByAxis : ByteArray := prog_3_method_10_code
def yX1_isSteadyByAxis : MethodName := ⟨RX1, "isSteadyByAxis", "([J)Z"⟩
def RX2 : String := "LoopJudge$Past"
def TX2 : u_T := fun k => match k with
  | 0 => ("LoopJudge$Past", "settings", "[LLoopJudge$Setting;", true)
  | 1 => ("LoopJudge$Past", "newest", "I", false)
  | _ => ("LoopJudge$Past", "known", "I", false)
def tyX2 : Nat → FieldType := fun k => match k with
  | 0 => .array (.object "LoopJudge$Setting")
  | 1 => .int
  | _ => .int
abbrev wsX20 : List Cond := u_ws RX2 TX2 3
theorem nmX2 : ∀ a, a < 3 → ∀ b, b < 3 → a ≠ b → (TX2 a).2.1 ≠ (TX2 b).2.1 := by decide +kernel
theorem tyX2_ok : ∀ k, k < 3 → parseFieldDescriptor (TX2 k).2.2.1 = some (tyX2 k) := by decide +kernel
abbrev cX2_init : ByteArray := prog_4_method_1_code
def yX2_init : MethodName := ⟨RX2, "<init>", "()V"⟩
abbrev cX2_keep : ByteArray := prog_4_method_2_code
def yX2_keep : MethodName := ⟨RX2, "keep", "(LLoopJudge$Setting;)V"⟩
abbrev cX2_giveBack : ByteArray := prog_4_method_3_code
def yX2_giveBack : MethodName := ⟨RX2, "giveBack", "(LLoopJudge$Setting;)V"⟩
abbrev cX2_become : ByteArray := prog_4_method_4_code
def yX2_become : MethodName := ⟨RX2, "become", "(LLoopJudge$Past;)V"⟩
def RX3 : String := "LoopJudge$Setting"
def TX3 : u_T := fun k => match k with
  | 0 => ("LoopJudge$Setting", "parts", "[I", true)
  | 1 => ("LoopJudge$Setting", "gainTold", "I", false)
  | _ => ("LoopJudge$Setting", "draw", "I", false)
def tyX3 : Nat → FieldType := fun k => match k with
  | 0 => .array .int
  | 1 => .int
  | _ => .int
abbrev wsX30 : List Cond := u_ws RX3 TX3 3
theorem nmX3 : ∀ a, a < 3 → ∀ b, b < 3 → a ≠ b → (TX3 a).2.1 ≠ (TX3 b).2.1 := by decide +kernel
theorem tyX3_ok : ∀ k, k < 3 → parseFieldDescriptor (TX3 k).2.2.1 = some (tyX3 k) := by decide +kernel
abbrev cX3_init : ByteArray := prog_5_method_1_code
def yX3_init : MethodName := ⟨RX3, "<init>", "()V"⟩
abbrev cX3_begin : ByteArray := prog_5_method_2_code
def yX3_begin : MethodName := ⟨RX3, "begin", "()V"⟩
abbrev cX3_become : ByteArray := prog_5_method_3_code
def yX3_become : MethodName := ⟨RX3, "become", "(LLoopJudge$Setting;)V"⟩
abbrev cX3_degreeTold : ByteArray := prog_5_method_4_code
def yX3_degreeTold : MethodName := ⟨RX3, "degreeTold", "(I)I"⟩
abbrev cX3_fillLoop : ByteArray := prog_5_method_5_code
def yX3_fillLoop : MethodName := ⟨RX3, "fillLoop", "([JI)V"⟩
abbrev cX3_drawOnce : ByteArray := prog_5_method_6_code
def yX3_drawOnce : MethodName := ⟨RX3, "drawOnce", "()V"⟩
def RX4 : String := "LoopJudge$Shelf"
def TX4 : u_T := fun k => match k with
  | 0 => ("LoopJudge$Shelf", "lanes", "[I", true)
  | 1 => ("LoopJudge$Shelf", "sizes", "[I", true)
  | _ => ("LoopJudge$Shelf", "items", "[[J", true)
def tyX4 : Nat → FieldType := fun k => match k with
  | 0 => .array .int
  | 1 => .array .int
  | _ => .array (.array .long)
abbrev wsX40 : List Cond := u_ws RX4 TX4 3
theorem nmX4 : ∀ a, a < 3 → ∀ b, b < 3 → a ≠ b → (TX4 a).2.1 ≠ (TX4 b).2.1 := by decide +kernel
theorem tyX4_ok : ∀ k, k < 3 → parseFieldDescriptor (TX4 k).2.2.1 = some (tyX4 k) := by decide +kernel
abbrev cX4_init : ByteArray := prog_6_method_1_code
def yX4_init : MethodName := ⟨RX4, "<init>", "()V"⟩
abbrev cX4_isMissing : ByteArray := prog_6_method_2_code
def yX4_isMissing : MethodName := ⟨RX4, "isMissing", "(I)Z"⟩
abbrev cX4_renew : ByteArray := prog_6_method_3_code
def yX4_renew : MethodName := ⟨RX4, "renew", "(III)V"⟩
abbrev cX4_remove : ByteArray := prog_6_method_4_code
def yX4_remove : MethodName := ⟨RX4, "remove", "(I)V"⟩
abbrev cX4_refusal : ByteArray := prog_6_method_5_code
def yX4_refusal : MethodName := ⟨RX4, "refusal", "(IIII)I"⟩
abbrev cX4_hasItems : ByteArray := prog_6_method_6_code
def yX4_hasItems : MethodName := ⟨RX4, "hasItems", "(III)Z"⟩
abbrev cX4_holdsParts : ByteArray := prog_6_method_7_code
def yX4_holdsParts : MethodName := ⟨RX4, "holdsParts", "(III)Z"⟩
def RX5 : String := "LoopJudge$SpanBook"
def TX5 : u_T := fun k => match k with
  | 0 => ("LoopJudge$SpanBook", "by", "I", true)
  | 1 => ("LoopJudge$SpanBook", "parts", "[I", true)
  | 2 => ("LoopJudge$SpanBook", "loop", "[J", true)
  | 3 => ("LoopJudge$SpanBook", "least", "[I", true)
  | 4 => ("LoopJudge$SpanBook", "greatest", "[I", true)
  | 5 => ("LoopJudge$SpanBook", "byWidth", "[I", true)
  | 6 => ("LoopJudge$SpanBook", "made", "Z", false)
  | 7 => ("LoopJudge$SpanBook", "size", "I", false)
  | _ => ("LoopJudge$SpanBook", "steadyGains", "I", false)
def tyX5 : Nat → FieldType := fun k => match k with
  | 0 => .int
  | 1 => .array .int
  | 2 => .array .long
  | 3 => .array .int
  | 4 => .array .int
  | 5 => .array .int
  | 6 => .boolean
  | 7 => .int
  | _ => .int
abbrev wsX50 : List Cond := u_ws RX5 TX5 9
theorem nmX5 : ∀ a, a < 9 → ∀ b, b < 9 → a ≠ b → (TX5 a).2.1 ≠ (TX5 b).2.1 := by decide +kernel
theorem tyX5_ok : ∀ k, k < 9 → parseFieldDescriptor (TX5 k).2.2.1 = some (tyX5 k) := by decide +kernel
abbrev cX5_init : ByteArray := prog_7_method_1_code
def yX5_init : MethodName := ⟨RX5, "<init>", "(I)V"⟩
abbrev cX5_refresh : ByteArray := prog_7_method_2_code
def yX5_refresh : MethodName := ⟨RX5, "refresh", "(LLoopJudge$Setting;LLoopJudge$Judge;)V"⟩
abbrev cX5_endOf : ByteArray := prog_7_method_3_code
def yX5_endOf : MethodName := ⟨RX5, "endOf", "(II)I"⟩
abbrev cX5_isOf : ByteArray := prog_7_method_4_code
def yX5_isOf : MethodName := ⟨RX5, "isOf", "(LLoopJudge$Setting;)Z"⟩
abbrev cX5_collect : ByteArray := prog_7_method_5_code
def yX5_collect : MethodName := ⟨RX5, "collect", "(LLoopJudge$Setting;LLoopJudge$Judge;)V"⟩
abbrev cX5_addGain : ByteArray := prog_7_method_6_code
def yX5_addGain : MethodName := ⟨RX5, "addGain", "(I)V"⟩
abbrev cX5_orderByWidth : ByteArray := prog_7_method_7_code
def yX5_orderByWidth : MethodName := ⟨RX5, "orderByWidth", "()V"⟩
abbrev cX5_widthOf : ByteArray := prog_7_method_8_code
def yX5_widthOf : MethodName := ⟨RX5, "widthOf", "(I)I"⟩
def RX6 : String := "LoopJudge$Tape"
def TX6 : u_T := fun k => match k with
  | 0 => ("LoopJudge$Tape", "letters", "[B", true)
  | 1 => ("LoopJudge$Tape", "parts", "[I", true)
  | 2 => ("LoopJudge$Tape", "tellsQ", "Z", false)
  | 3 => ("LoopJudge$Tape", "size", "I", false)
  | 4 => ("LoopJudge$Tape", "place", "I", false)
  | 5 => ("LoopJudge$Tape", "figure", "I", false)
  | _ => ("LoopJudge$Tape", "power", "I", false)
def tyX6 : Nat → FieldType := fun k => match k with
  | 0 => .array .byte
  | 1 => .array .int
  | 2 => .boolean
  | 3 => .int
  | 4 => .int
  | 5 => .int
  | _ => .int
abbrev wsX60 : List Cond := u_ws RX6 TX6 7
theorem nmX6 : ∀ a, a < 7 → ∀ b, b < 7 → a ≠ b → (TX6 a).2.1 ≠ (TX6 b).2.1 := by decide +kernel
theorem tyX6_ok : ∀ k, k < 7 → parseFieldDescriptor (TX6 k).2.2.1 = some (tyX6 k) := by decide +kernel
abbrev cX6_init : ByteArray := prog_8_method_1_code
def yX6_init : MethodName := ⟨RX6, "<init>", "()V"⟩
abbrev cX6_append : ByteArray := prog_8_method_2_code
def yX6_append : MethodName := ⟨RX6, "append", "(I)Z"⟩
abbrev cX6_readText : ByteArray := prog_8_method_3_code
def yX6_readText : MethodName := ⟨RX6, "readText", "()I"⟩
abbrev cX6_readTerms : ByteArray := prog_8_method_4_code
def yX6_readTerms : MethodName := ⟨RX6, "readTerms", "(I)I"⟩
abbrev cX6_readTerm : ByteArray := prog_8_method_5_code
def yX6_readTerm : MethodName := ⟨RX6, "readTerm", "()Z"⟩
abbrev cX6_readPower : ByteArray := prog_8_method_6_code
def yX6_readPower : MethodName := ⟨RX6, "readPower", "()V"⟩
abbrev cX6_nextLetter : ByteArray := prog_8_method_7_code
def yX6_nextLetter : MethodName := ⟨RX6, "nextLetter", "()I"⟩
def RX7 : String := "LoopJudge"
def TX7 : u_T := fun k => match k with
  | 0 => ("LoopJudge", "now", "LLoopJudge$Setting;", true)
  | 1 => ("LoopJudge", "past", "LLoopJudge$Past;", true)
  | 2 => ("LoopJudge", "keptNow", "LLoopJudge$Setting;", true)
  | 3 => ("LoopJudge", "keptPast", "LLoopJudge$Past;", true)
  | 4 => ("LoopJudge", "kept", "Z", false)
  | 5 => ("LoopJudge", "tape", "LLoopJudge$Tape;", true)
  | 6 => ("LoopJudge", "shelf", "LLoopJudge$Shelf;", true)
  | 7 => ("LoopJudge", "judge", "LLoopJudge$Judge;", true)
  | 8 => ("LoopJudge", "axisSpans", "LLoopJudge$SpanBook;", true)
  | 9 => ("LoopJudge", "circleSpans", "LLoopJudge$SpanBook;", true)
  | _ => ("LoopJudge", "poly", "[J", true)
def tyX7 : Nat → FieldType := fun k => match k with
  | 0 => .object "LoopJudge$Setting"
  | 1 => .object "LoopJudge$Past"
  | 2 => .object "LoopJudge$Setting"
  | 3 => .object "LoopJudge$Past"
  | 4 => .boolean
  | 5 => .object "LoopJudge$Tape"
  | 6 => .object "LoopJudge$Shelf"
  | 7 => .object "LoopJudge$Judge"
  | 8 => .object "LoopJudge$SpanBook"
  | 9 => .object "LoopJudge$SpanBook"
  | _ => .array .long
abbrev wsX70 : List Cond := u_ws RX7 TX7 11
theorem nmX7 : ∀ a, a < 11 → ∀ b, b < 11 → a ≠ b → (TX7 a).2.1 ≠ (TX7 b).2.1 := by decide +kernel
theorem tyX7_ok : ∀ k, k < 11 → parseFieldDescriptor (TX7 k).2.2.1 = some (tyX7 k) := by decide +kernel
abbrev cX7_init : ByteArray := prog_1_method_1_code
def yX7_init : MethodName := ⟨RX7, "<init>", "()V"⟩
abbrev cX7_part : ByteArray := prog_1_method_2_code
def yX7_part : MethodName := ⟨RX7, "part", "(III)I"⟩
abbrev cX7_gain : ByteArray := prog_1_method_3_code
def yX7_gain : MethodName := ⟨RX7, "gain", "(I)I"⟩
abbrev cX7_told : ByteArray := prog_1_method_4_code
def yX7_told : MethodName := ⟨RX7, "told", "(II)I"⟩
abbrev cX7_count : ByteArray := prog_1_method_5_code
def yX7_count : MethodName := ⟨RX7, "count", "(I)I"⟩
abbrev cX7_roots : ByteArray := prog_1_method_6_code
def yX7_roots : MethodName := ⟨RX7, "roots", "(II)I"⟩
abbrev cX7_at : ByteArray := prog_1_method_7_code
def yX7_at : MethodName := ⟨RX7, "at", "(III)I"⟩
abbrev cX7_row : ByteArray := prog_1_method_8_code
def yX7_row : MethodName := ⟨RX7, "row", "(III)J"⟩
abbrev cX7_rows : ByteArray := prog_1_method_9_code
def yX7_rows : MethodName := ⟨RX7, "rows", "()I"⟩
abbrev cX7_span : ByteArray := prog_1_method_10_code
def yX7_span : MethodName := ⟨RX7, "span", "(III)I"⟩
abbrev cX7_widest : ByteArray := prog_1_method_11_code
def yX7_widest : MethodName := ⟨RX7, "widest", "(III)I"⟩
abbrev cX7_spans : ByteArray := prog_1_method_12_code
def yX7_spans : MethodName := ⟨RX7, "spans", "(II)I"⟩
abbrev cX7_corners : ByteArray := prog_1_method_13_code
def yX7_corners : MethodName := ⟨RX7, "corners", "(I)I"⟩
abbrev cX7_neighbours : ByteArray := prog_1_method_14_code
def yX7_neighbours : MethodName := ⟨RX7, "neighbours", "(I)I"⟩
abbrev cX7_off : ByteArray := prog_1_method_15_code
def yX7_off : MethodName := ⟨RX7, "off", "(II)I"⟩
abbrev cX7_type : ByteArray := prog_1_method_16_code
def yX7_type : MethodName := ⟨RX7, "type", "(I)I"⟩
abbrev cX7_read : ByteArray := prog_1_method_17_code
def yX7_read : MethodName := ⟨RX7, "read", "()I"⟩
abbrev cX7_drift : ByteArray := prog_1_method_18_code
def yX7_drift : MethodName := ⟨RX7, "drift", "(I)I"⟩
abbrev cX7_undo : ByteArray := prog_1_method_19_code
def yX7_undo : MethodName := ⟨RX7, "undo", "()I"⟩
abbrev cX7_seed : ByteArray := prog_1_method_20_code
def yX7_seed : MethodName := ⟨RX7, "seed", "(I)I"⟩
abbrev cX7_image : ByteArray := prog_1_method_21_code
def yX7_image : MethodName := ⟨RX7, "image", "()I"⟩
abbrev cX7_restore : ByteArray := prog_1_method_22_code
def yX7_restore : MethodName := ⟨RX7, "restore", "()I"⟩
abbrev cX7_judged : ByteArray := prog_1_method_23_code
def yX7_judged : MethodName := ⟨RX7, "judged", "(IIII)I"⟩
abbrev cX7_film : ByteArray := prog_1_method_24_code
def yX7_film : MethodName := ⟨RX7, "film", "(IIII)I"⟩
abbrev cX7_sheet : ByteArray := prog_1_method_25_code
def yX7_sheet : MethodName := ⟨RX7, "sheet", "(III)I"⟩
abbrev cX7_drop : ByteArray := prog_1_method_26_code
def yX7_drop : MethodName := ⟨RX7, "drop", "(I)I"⟩
abbrev cX7_item : ByteArray := prog_1_method_27_code
def yX7_item : MethodName := ⟨RX7, "item", "(IIIJ)I"⟩
abbrev cX7_copy : ByteArray := prog_1_method_28_code
def yX7_copy : MethodName := ⟨RX7, "copy", "(IIIII)I"⟩
abbrev cX7_countRoots : ByteArray := prog_1_method_29_code
def yX7_countRoots : MethodName := ⟨RX7, "countRoots", "(III)I"⟩
abbrev cX7_bookOf : ByteArray := prog_1_method_30_code
def yX7_bookOf : MethodName := ⟨RX7, "bookOf", "(I)LLoopJudge$SpanBook;"⟩
abbrev cX7_isChoice : ByteArray := prog_1_method_31_code
def yX7_isChoice : MethodName := ⟨RX7, "isChoice", "(II)Z"⟩
abbrev cX7_isPart : ByteArray := prog_1_method_32_code
def yX7_isPart : MethodName := ⟨RX7, "isPart", "(J)Z"⟩
abbrev cX7_isGain : ByteArray := prog_1_method_33_code
def yX7_isGain : MethodName := ⟨RX7, "isGain", "(I)Z"⟩
abbrev cX7_orNone : ByteArray := prog_1_method_34_code
def yX7_orNone : MethodName := ⟨RX7, "orNone", "(I)I"⟩
abbrev cX7_degreeOf : ByteArray := prog_1_method_35_code
def yX7_degreeOf : MethodName := ⟨RX7, "degreeOf", "([J)I"⟩
abbrev cX7_oddsOf : ByteArray := prog_1_method_36_code
def yX7_oddsOf : MethodName := ⟨RX7, "oddsOf", "(II)I"⟩
abbrev cX7_commonDivisor : ByteArray := prog_1_method_37_code
def yX7_commonDivisor : MethodName := ⟨RX7, "commonDivisor", "(JJ)J"⟩
abbrev cX7_cutTo : ByteArray := prog_1_method_38_code
def yX7_cutTo : MethodName := ⟨RX7, "cutTo", "(IJ)J"⟩
def RX8 : String := "LoopJudgeModel"
def TX8 : u_T := fun k => match k with
  | 0 => ("LoopJudgeModel", "st", "[I", true)
  | 1 => ("LoopJudgeModel", "past", "[I", true)
  | 2 => ("LoopJudgeModel", "acts", "I", false)
  | 3 => ("LoopJudgeModel", "image", "[I", true)
  | 4 => ("LoopJudgeModel", "imagePast", "[I", true)
  | 5 => ("LoopJudgeModel", "imageActs", "I", false)
  | 6 => ("LoopJudgeModel", "tape", "[I", true)
  | 7 => ("LoopJudgeModel", "tapeMany", "I", false)
  | 8 => ("LoopJudgeModel", "laneOf", "[I", true)
  | 9 => ("LoopJudgeModel", "sizeOf", "[I", true)
  | 10 => ("LoopJudgeModel", "items", "[J", true)
  | 11 => ("LoopJudgeModel", "p", "[J", true)
  | 12 => ("LoopJudgeModel", "right", "I", false)
  | 13 => ("LoopJudgeModel", "even", "I", false)
  | 14 => ("LoopJudgeModel", "left", "I", false)
  | 15 => ("LoopJudgeModel", "a", "[J", true)
  | 16 => ("LoopJudgeModel", "changes", "I", false)
  | 17 => ("LoopJudgeModel", "lastSign", "I", false)
  | 18 => ("LoopJudgeModel", "turned", "[J", true)
  | 19 => ("LoopJudgeModel", "product", "[J", true)
  | 20 => ("LoopJudgeModel", "rows", "[J", true)
  | 21 => ("LoopJudgeModel", "rowMany", "I", false)
  | 22 => ("LoopJudgeModel", "u", "[J", true)
  | 23 => ("LoopJudgeModel", "from", "[I", true)
  | 24 => ("LoopJudgeModel", "to", "[I", true)
  | 25 => ("LoopJudgeModel", "spanMany", "I", false)
  | 26 => ("LoopJudgeModel", "readAt", "I", false)
  | 27 => ("LoopJudgeModel", "isFault", "Z", false)
  | _ => ("LoopJudgeModel", "read", "[I", true)
def tyX8 : Nat → FieldType := fun k => match k with
  | 0 => .array .int
  | 1 => .array .int
  | 2 => .int
  | 3 => .array .int
  | 4 => .array .int
  | 5 => .int
  | 6 => .array .int
  | 7 => .int
  | 8 => .array .int
  | 9 => .array .int
  | 10 => .array .long
  | 11 => .array .long
  | 12 => .int
  | 13 => .int
  | 14 => .int
  | 15 => .array .long
  | 16 => .int
  | 17 => .int
  | 18 => .array .long
  | 19 => .array .long
  | 20 => .array .long
  | 21 => .int
  | 22 => .array .long
  | 23 => .array .int
  | 24 => .array .int
  | 25 => .int
  | 26 => .int
  | 27 => .boolean
  | _ => .array .int
abbrev wsX80 : List Cond := u_ws RX8 TX8 29
theorem nmX8 : ∀ a, a < 29 → ∀ b, b < 29 → a ≠ b → (TX8 a).2.1 ≠ (TX8 b).2.1 := by decide +kernel
theorem tyX8_ok : ∀ k, k < 29 → parseFieldDescriptor (TX8 k).2.2.1 = some (tyX8 k) := by decide +kernel
abbrev cX8_init : ByteArray := prog_10_method_1_code
def yX8_init : MethodName := ⟨RX8, "<init>", "()V"⟩
abbrev cX8_in : ByteArray := prog_10_method_2_code
def yX8_in : MethodName := ⟨RX8, "in", "(JJJ)Z"⟩
abbrev cX8_bring : ByteArray := prog_10_method_3_code
def yX8_bring : MethodName := ⟨RX8, "bring", "([II[III)V"⟩
abbrev cX8_notes : ByteArray := prog_10_method_4_code
def yX8_notes : MethodName := ⟨RX8, "notes", "()V"⟩
abbrev cX8_degree : ByteArray := prog_10_method_5_code
def yX8_degree : MethodName := ⟨RX8, "degree", "([JI)I"⟩
abbrev cX8_loops : ByteArray := prog_10_method_6_code
def yX8_loops : MethodName := ⟨RX8, "loops", "(I)V"⟩
abbrev cX8_sign : ByteArray := prog_10_method_7_code
def yX8_sign : MethodName := ⟨RX8, "sign", "(J)I"⟩
abbrev cX8_more : ByteArray := prog_10_method_8_code
def yX8_more : MethodName := ⟨RX8, "more", "(III)V"⟩
abbrev cX8_square : ByteArray := prog_10_method_9_code
def yX8_square : MethodName := ⟨RX8, "square", "(I)V"⟩
abbrev cX8_squares : ByteArray := prog_10_method_10_code
def yX8_squares : MethodName := ⟨RX8, "squares", "(JJJ)V"⟩
abbrev cX8_two : ByteArray := prog_10_method_11_code
def yX8_two : MethodName := ⟨RX8, "two", "(JJJ)V"⟩
abbrev cX8_passes : ByteArray := prog_10_method_12_code
def yX8_passes : MethodName := ⟨RX8, "passes", "(I)V"⟩
abbrev cX8_three : ByteArray := prog_10_method_13_code
def yX8_three : MethodName := ⟨RX8, "three", "(JJJJ)V"⟩
abbrev cX8_four : ByteArray := prog_10_method_14_code
def yX8_four : MethodName := ⟨RX8, "four", "()V"⟩
abbrev cX8_apart : ByteArray := prog_10_method_15_code
def yX8_apart : MethodName := ⟨RX8, "apart", "(I)V"⟩
abbrev cX8_counts : ByteArray := prog_10_method_16_code
def yX8_counts : MethodName := ⟨RX8, "counts", "()V"⟩
abbrev cX8_multiplies : ByteArray := prog_10_method_17_code
def yX8_multiplies : MethodName := ⟨RX8, "multiplies", "(I)V"⟩
abbrev cX8_turns : ByteArray := prog_10_method_18_code
def yX8_turns : MethodName := ⟨RX8, "turns", "(I)V"⟩
abbrev cX8_countsBy : ByteArray := prog_10_method_19_code
def yX8_countsBy : MethodName := ⟨RX8, "countsBy", "(I)I"⟩
abbrev cX8_isSteady : ByteArray := prog_10_method_20_code
def yX8_isSteady : MethodName := ⟨RX8, "isSteady", "(I)Z"⟩
abbrev cX8_isPart : ByteArray := prog_10_method_21_code
def yX8_isPart : MethodName := ⟨RX8, "isPart", "(II)Z"⟩
abbrev cX8_part : ByteArray := prog_10_method_22_code
def yX8_part : MethodName := ⟨RX8, "part", "(III)I"⟩
abbrev cX8_isGain : ByteArray := prog_10_method_23_code
def yX8_isGain : MethodName := ⟨RX8, "isGain", "(I)Z"⟩
abbrev cX8_gain : ByteArray := prog_10_method_24_code
def yX8_gain : MethodName := ⟨RX8, "gain", "(I)I"⟩
abbrev cX8_told : ByteArray := prog_10_method_25_code
def yX8_told : MethodName := ⟨RX8, "told", "(II)I"⟩
abbrev cX8_degreeOf : ByteArray := prog_10_method_26_code
def yX8_degreeOf : MethodName := ⟨RX8, "degreeOf", "(I)I"⟩
abbrev cX8_count : ByteArray := prog_10_method_27_code
def yX8_count : MethodName := ⟨RX8, "count", "(I)I"⟩
abbrev cX8_roots : ByteArray := prog_10_method_28_code
def yX8_roots : MethodName := ⟨RX8, "roots", "(II)I"⟩
abbrev cX8_at : ByteArray := prog_10_method_29_code
def yX8_at : MethodName := ⟨RX8, "at", "(III)I"⟩
abbrev cX8_divisor : ByteArray := prog_10_method_30_code
def yX8_divisor : MethodName := ⟨RX8, "divisor", "(JJ)J"⟩
abbrev cX8_shortens : ByteArray := prog_10_method_31_code
def yX8_shortens : MethodName := ⟨RX8, "shortens", "()V"⟩
abbrev cX8_divides : ByteArray := prog_10_method_32_code
def yX8_divides : MethodName := ⟨RX8, "divides", "(I)V"⟩
abbrev cX8_addsRow : ByteArray := prog_10_method_33_code
def yX8_addsRow : MethodName := ⟨RX8, "addsRow", "()V"⟩
abbrev cX8_laysRows : ByteArray := prog_10_method_34_code
def yX8_laysRows : MethodName := ⟨RX8, "laysRows", "()V"⟩
abbrev cX8_row : ByteArray := prog_10_method_35_code
def yX8_row : MethodName := ⟨RX8, "row", "(III)J"⟩
abbrev cX8_rows : ByteArray := prog_10_method_36_code
def yX8_rows : MethodName := ⟨RX8, "rows", "()I"⟩
abbrev cX8_laysSpans : ByteArray := prog_10_method_37_code
def yX8_laysSpans : MethodName := ⟨RX8, "laysSpans", "(I)I"⟩
abbrev cX8_isAsk : ByteArray := prog_10_method_38_code
def yX8_isAsk : MethodName := ⟨RX8, "isAsk", "(III)Z"⟩
abbrev cX8_span : ByteArray := prog_10_method_39_code
def yX8_span : MethodName := ⟨RX8, "span", "(III)I"⟩
abbrev cX8_widest : ByteArray := prog_10_method_40_code
def yX8_widest : MethodName := ⟨RX8, "widest", "(III)I"⟩
abbrev cX8_spans : ByteArray := prog_10_method_41_code
def yX8_spans : MethodName := ⟨RX8, "spans", "(II)I"⟩
abbrev cX8_corners : ByteArray := prog_10_method_42_code
def yX8_corners : MethodName := ⟨RX8, "corners", "(I)I"⟩
abbrev cX8_neighbours : ByteArray := prog_10_method_43_code
def yX8_neighbours : MethodName := ⟨RX8, "neighbours", "(I)I"⟩
abbrev cX8_off : ByteArray := prog_10_method_44_code
def yX8_off : MethodName := ⟨RX8, "off", "(II)I"⟩
abbrev cX8_type : ByteArray := prog_10_method_45_code
def yX8_type : MethodName := ⟨RX8, "type", "(I)I"⟩
abbrev cX8_looks : ByteArray := prog_10_method_46_code
def yX8_looks : MethodName := ⟨RX8, "looks", "()I"⟩
abbrev cX8_goesBy : ByteArray := prog_10_method_47_code
def yX8_goesBy : MethodName := ⟨RX8, "goesBy", "(Z)Z"⟩
abbrev cX8_term : ByteArray := prog_10_method_48_code
def yX8_term : MethodName := ⟨RX8, "term", "(III)I"⟩
abbrev cX8_terms : ByteArray := prog_10_method_49_code
def yX8_terms : MethodName := ⟨RX8, "terms", "(I)V"⟩
abbrev cX8_read : ByteArray := prog_10_method_50_code
def yX8_read : MethodName := ⟨RX8, "read", "()I"⟩
abbrev cX8_drift : ByteArray := prog_10_method_51_code
def yX8_drift : MethodName := ⟨RX8, "drift", "(I)I"⟩
abbrev cX8_undo : ByteArray := prog_10_method_52_code
def yX8_undo : MethodName := ⟨RX8, "undo", "()I"⟩
abbrev cX8_seed : ByteArray := prog_10_method_53_code
def yX8_seed : MethodName := ⟨RX8, "seed", "(I)I"⟩
abbrev cX8_image : ByteArray := prog_10_method_54_code
def yX8_image : MethodName := ⟨RX8, "image", "()I"⟩
abbrev cX8_restore : ByteArray := prog_10_method_55_code
def yX8_restore : MethodName := ⟨RX8, "restore", "()I"⟩
abbrev cX8_isSheet : ByteArray := prog_10_method_56_code
def yX8_isSheet : MethodName := ⟨RX8, "isSheet", "(II)Z"⟩
abbrev cX8_found : ByteArray := prog_10_method_57_code
def yX8_found : MethodName := ⟨RX8, "found", "(IIII)I"⟩
abbrev cX8_judged : ByteArray := prog_10_method_58_code
def yX8_judged : MethodName := ⟨RX8, "judged", "(IIII)I"⟩
abbrev cX8_film : ByteArray := prog_10_method_59_code
def yX8_film : MethodName := ⟨RX8, "film", "(IIII)I"⟩
abbrev cX8_lowest : ByteArray := prog_10_method_60_code
def yX8_lowest : MethodName := ⟨RX8, "lowest", "(JI)J"⟩
abbrev cX8_sheet : ByteArray := prog_10_method_61_code
def yX8_sheet : MethodName := ⟨RX8, "sheet", "(III)I"⟩
abbrev cX8_drop : ByteArray := prog_10_method_62_code
def yX8_drop : MethodName := ⟨RX8, "drop", "(I)I"⟩
abbrev cX8_item : ByteArray := prog_10_method_63_code
def yX8_item : MethodName := ⟨RX8, "item", "(IIIJ)I"⟩
abbrev cX8_copy : ByteArray := prog_10_method_64_code
def yX8_copy : MethodName := ⟨RX8, "copy", "(IIIII)I"⟩
def RJ6 : String := "java/lang/Integer"
def TJ6 : u_T := fun k => match k with
  | _ => ("", "", "", false)
def tyJ6 : Nat → FieldType := fun k => match k with
  | _ => .int
abbrev wsJ60 : List Cond := u_ws RJ6 TJ6 0
theorem nmJ6 : ∀ a, a < 0 → ∀ b, b < 0 → a ≠ b → (TJ6 a).2.1 ≠ (TJ6 b).2.1 := by decide +kernel
theorem tyJ6_ok : ∀ k, k < 0 → parseFieldDescriptor (TJ6 k).2.2.1 = some (tyJ6 k) := by decide +kernel
abbrev cJ6_bitCount_0f7a4 : ByteArray := prog_11_method_49_code
def yJ6_bitCount_0f7a4 : MethodName := ⟨RJ6, "bitCount", "(I)I"⟩
def RJ9 : String := "java/lang/Math"
def TJ9 : u_T := fun k => match k with
  | _ => ("", "", "", false)
def tyJ9 : Nat → FieldType := fun k => match k with
  | _ => .int
abbrev wsJ90 : List Cond := u_ws RJ9 TJ9 0
theorem nmJ9 : ∀ a, a < 0 → ∀ b, b < 0 → a ≠ b → (TJ9 a).2.1 ≠ (TJ9 b).2.1 := by decide +kernel
theorem tyJ9_ok : ∀ k, k < 0 → parseFieldDescriptor (TJ9 k).2.2.1 = some (tyJ9 k) := by decide +kernel
abbrev cJ9_abs_067f4 : ByteArray := prog_12_method_61_code
def yJ9_abs_067f4 : MethodName := ⟨RJ9, "abs", "(J)J"⟩
def RJ10 : String := "java/lang/System"
def TJ10 : u_T := fun k => match k with
  | _ => ("", "", "", false)
def tyJ10 : Nat → FieldType := fun k => match k with
  | _ => .int
abbrev wsJ100 : List Cond := u_ws RJ10 TJ10 0
theorem nmJ10 : ∀ a, a < 0 → ∀ b, b < 0 → a ≠ b → (TJ10 a).2.1 ≠ (TJ10 b).2.1 := by decide +kernel
theorem tyJ10_ok : ∀ k, k < 0 → parseFieldDescriptor (TJ10 k).2.2.1 = some (tyJ10 k) := by decide +kernel
def RJ7 : String := "java/util/Arrays"
def TJ7 : u_T := fun k => match k with
  | _ => ("", "", "", false)
def tyJ7 : Nat → FieldType := fun k => match k with
  | _ => .int
abbrev wsJ70 : List Cond := u_ws RJ7 TJ7 0
theorem nmJ7 : ∀ a, a < 0 → ∀ b, b < 0 → a ≠ b → (TJ7 a).2.1 ≠ (TJ7 b).2.1 := by decide +kernel
theorem tyJ7_ok : ∀ k, k < 0 → parseFieldDescriptor (TJ7 k).2.2.1 = some (tyJ7 k) := by decide +kernel
abbrev cJ7_fill_d0a16 : ByteArray := prog_14_method_101_code
def yJ7_fill_d0a16 : MethodName := ⟨RJ7, "fill", "([JJ)V"⟩
abbrev cJ7_fill_53178 : ByteArray := prog_14_method_103_code
def yJ7_fill_53178 : MethodName := ⟨RJ7, "fill", "([II)V"⟩
def RL : String := "LoopJudgeLaw"
abbrev cL_law : ByteArray := code
def yL_law : MethodName := ⟨RL, "law", "([I)Z"⟩
abbrev vwCl : List vw_C := [(RX0, TX0, 3), (RX1, TX1, 5), (RX2, TX2, 3), (RX3, TX3, 3), (RX4, TX4, 3), (RX5, TX5, 9), (RX6, TX6, 7), (RX7, TX7, 11), (RX8, TX8, 29)]
end
section
/-! ===== the small machine: handles instead of addresses, a heap that is a function of handles ===== -/
def TB : List Cond := lw_tbl.filter goodWord
theorem tb_of {w : Cond} (h : w ∈ lw_tbl) (g : goodWord w = true) : w ∈ TB := List.mem_filter.mpr ⟨h, g⟩
theorem tb_in {w : Cond} (h : w ∈ TB) : w ∈ lw_tbl := (List.mem_filter.mp h).1
theorem tb_good {w : Cond} (h : w ∈ TB) : (w.onTables && w.keeps) = true ∨ ∃ ty, w = .arrayClass ty := good_of_word (List.mem_filter.mp h).2
abbrev mE : Type := (FieldType × vp_A) ⊕ (Nat × (Nat → Value))
abbrev mHp : Type := Nat → mE
/-- an array of ints, of longs, of bytes, of references -/
abbrev eI (n : Nat) (f : Nat → Int32) : mE := .inl (.int, n, .inl f)
abbrev eB (n : Nat) (f : Nat → Int32) : mE := .inl (.byte, n, .inl f)
abbrev eL (n : Nat) (f : Nat → Int64) : mE := .inl (.long, n, .inr (.inl f))
abbrev eR (ty : FieldType) (n : Nat) (f : Nat → Option Nat) : mE := .inl (ty, n, .inr (.inr (.inr (.inr f))))
abbrev eO (ci : Nat) (f : Nat → Value) : mE := .inr (ci, f)
/-- handles from here on stand for cells that are not the system's: the script, a static array -/
def mSC : Nat := 1000000
def mJ : mE := .inr (99, fun _ => .null)
def mv (ad : Nat → Nat) (v : Value) : Value := match v with
  | .ref h => .ref (ad h)
  | w => w
def mA (ad : Nat → Nat) (a : vp_A) : vp_A := match a with
  | (n, .inr (.inr (.inr (.inr f)))) => (n, .inr (.inr (.inr (.inr (fun i => (f i).map ad)))))
  | b => b
def mN (ci : Nat) : Nat := match vwCl[ci]? with
  | some q => q.2.2
  | none => 0
def mcell (dA : FieldType → ClassId) (ad : Nat → Nat) (c : mE) : va_E := match c with
  | .inl a => .inl (dA a.1, mA ad a.2)
  | .inr o => .inr (o.1, (List.range (mN o.1)).map fun k => mv ad (o.2 k))
def mws (dA : FieldType → ClassId) (ad : Nat → Nat) (n : Nat) (hp : mHp) : va_W := (List.range n).map fun h => (ad h, mcell dA ad (hp h))
theorem mws_at {dA : FieldType → ClassId} {ad : Nat → Nat} {n : Nat} {hp : mHp} {h : Nat} (hl : h < n) : (mws dA ad n hp)[h]? = some (ad h, mcell dA ad (hp h)) := by
  unfold mws
  rw [List.getElem?_map, List.getElem?_range hl]
  rfl
theorem mws_no {dA : FieldType → ClassId} {ad : Nat → Nat} {n : Nat} {hp : mHp} {h : Nat} (hl : ¬ h < n) : (mws dA ad n hp)[h]? = none := by
  apply List.getElem?_eq_none
  unfold mws
  rw [List.length_map, List.length_range]
  omega
theorem mws_len {dA : FieldType → ClassId} {ad : Nat → Nat} {n : Nat} {hp : mHp} : (mws dA ad n hp).length = n := by
  unfold mws
  rw [List.length_map, List.length_range]
theorem mws_set {dA : FieldType → ClassId} {ad : Nat → Nat} {n : Nat} {hp : mHp} {h : Nat} {c : mE} : (mws dA ad n hp).set h (ad h, mcell dA ad c) = mws dA ad n (va_up hp h c) := by
  apply List.ext_getElem?
  intro i
  rw [List.getElem?_set, mws_len]
  by_cases hi : i < n
  · rw [mws_at hi, mws_at hi]
    by_cases e : h = i
    · subst e
      rw [if_pos rfl, if_pos hi, va_up_self]
    · rw [if_neg e, va_up_ne _ _ (fun q => e q.symm)]
  · rw [mws_no hi, mws_no hi]
    by_cases e : h = i
    · subst e
      rw [if_pos rfl, if_neg hi]
    · rw [if_neg e]
theorem mws_push {dA : FieldType → ClassId} {ad : Nat → Nat} {n : Nat} {hp : mHp} {c : mE} : mws dA ad n hp ++ [(ad n, mcell dA ad c)] = mws dA ad (n + 1) (va_up hp n c) := by
  unfold mws
  rw [List.range_succ, List.map_append]
  congr 1
  · apply List.map_congr_left
    intro a ha
    rw [va_up_ne _ _ (Nat.ne_of_lt (List.mem_range.mp ha))]
  · rw [List.map_singleton, va_up_self]
abbrev mK : Type := (Program × Launch × Env × Room × State × MethodId) × (Array Value × List Frame × Method × Code) × (va_G × (FieldType → ClassId) × (Nat → Nat) × Nat) × (State → Prop)
/-- a method: its class, name, code, locals, what it returns; its level, how many cells and slots it makes -/
abbrev MD : Type := String × MethodName × ByteArray × Nat × Option FieldType × Nat × Nat × Nat
abbrev dOwn (M : MD) : String := M.1
abbrev dY (M : MD) : MethodName := M.2.1
abbrev dC (M : MD) : ByteArray := M.2.2.1
abbrev dL (M : MD) : Nat := M.2.2.2.1
abbrev dR (M : MD) : Option FieldType := M.2.2.2.2.1
abbrev dV (M : MD) : Nat := M.2.2.2.2.2.1
abbrev dMc (M : MD) : Nat := M.2.2.2.2.2.2.1
abbrev dMs (M : MD) : Nat := M.2.2.2.2.2.2.2
def mRm (v mc ms : Nat) : Room := { frames := v, cells := mc, slots := ms, locals := 40 * v }
/-- the static array's places -/
def mCS : List Int32 := [-1, -1, 1, 1, -1, 1, 1, -1, -1, 1, -1, 1, 1, -1, -1, 1, -1, -1, 1, 1]
abbrev tyS : FieldType := .object "LoopJudge$Setting"
abbrev tyJJ : FieldType := .array .long
abbrev mty (dA : FieldType → ClassId) : List (ClassId × FieldType) := [(dA .int, .int), (dA .long, .long), (dA .byte, .byte), (dA tyJJ, tyJJ), (dA tyS, tyS)]
abbrev mAc (base : Nat) : Nat → Prop := fun q => base ≤ q
def mAOA (U : State) : Prop := (Cond.arrayOver (.array .long)).before #[] U = true
/-- words that are not among the tables' good ones, and the static array -/
def mEnv (ad : Nat → Nat) (base : Nat) (U : State) (H : Heap) : Prop :=
  (va_Nw (.methodLinkNest RX0 24 yX7_degreeOf RX7) U ∧ va_Nw (.methodLinkNest RX0 59 yX7_commonDivisor RX7) U ∧ va_Nw (.methodLinkNest RX1 42 yX7_degreeOf RX7) U ∧ va_Nw (.methodLinkNest RX4 37 yX7_isPart RX7) U) ∧ va_AO "LoopJudge$Setting" U ∧ mAOA U ∧
  va_Z "LoopJudge" "CORNER_SIDES" "[I" (.ref (ad (mSC + 1))) (mAc base) U H ∧ va_T .int (ad (mSC + 1)) 20 (fun j => .int (mCS.getD j 0)) (mAc base) U H
def mOk (K : mK) (M : MD) : Prop :=
  K.1.1.tables.exec = Jvm.exec ∧ K.2.1.2.2.2.code = dC M ∧ K.2.1.2.2.2.maxLocals = dL M ∧ K.1.2.2.2.2.1.vm.findClass (dOwn M) = some K.1.2.2.2.2.2.cls ∧ (∀ w ∈ TB, w.before K.2.1.1 K.1.2.2.2.2.1 = true) ∧
  va_K K.2.2.1.1 vwCl (mty K.2.2.1.2.1) K.1.2.2.2.2.1 ∧ K.2.2.1.2.2.2 ≤ K.1.2.2.2.2.1.heap.size ∧ (∀ h, h < mSC → K.2.2.1.2.2.1 h = K.2.2.1.2.2.2 + h) ∧ mEnv K.2.2.1.2.2.1 K.2.2.1.2.2.2 K.1.2.2.2.2.1 K.1.2.2.2.2.1.heap ∧ K.1.2.2.2.1 = mRm (dV M) (dMc M) (dMs M)
def mRel (K : mK) (cs n : Nat) (hp : mHp) (H : Heap) (locs : List Loc) : Prop :=
  va_P K.2.2.1.1 vwCl (mws K.2.2.1.2.1 K.2.2.1.2.2.1 n hp) H ∧ K.2.2.1.2.2.2 + n = K.1.2.2.2.2.1.heap.size + cs ∧ va_S (mAc K.2.2.1.2.2.2) K.1.2.2.2.2.1.heap H locs ∧ (∀ h, n ≤ h → hp h = mJ) ∧ n ≤ mSC
/-- the known locals: what isn't known is a .retAddr -/
def mlv (ad : Nat → Nat) (lv : List Value) : List (Nat × Value) := lv.zipIdx.filterMap fun q => match q.1 with
  | .retAddr _ => none
  | v => some (q.2, mv ad v)
def mW (K : mK) (M : MD) (cells slots n : Nat) (hp : mHp) (pc : Nat) (lv st : List Value) : Prop :=
  mOk K M → ∀ (H : Heap) (locs : List Loc) (ls : Array Slot), mRel K cells n hp H locs → lv_has ls (dL M) (mlv K.2.2.1.2.2.1 lv) →
    W K.1.1 K.1.2.1 K.1.2.2.1 K.1.2.2.2.1 K.1.2.2.2.2.1 K.1.2.2.2.2.2 K.2.1.1 K.2.1.2.1 K.2.1.2.2.1 K.2.1.2.2.2 H locs cells slots K.2.2.2 (F0 K.1.2.2.2.2.2 pc ls (st.map (mv K.2.2.1.2.2.1)))
theorem mlv_mem {ad : Nat → Nat} {lv : List Value} {i : Nat} {v : Value} (h : lv[i]? = some v) (hv : ∀ k, v ≠ .retAddr k) : (i, mv ad v) ∈ mlv ad lv := by
  unfold mlv
  refine List.mem_filterMap.mpr ⟨(v, i), List.mem_of_getElem? (i := i) ?_, ?_⟩
  · rw [List.getElem?_zipIdx, h]
    simp
  · cases v <;> first | rfl | exact absurd rfl (hv _)
theorem mlv_of {ad : Nat → Nat} {lv : List Value} {i : Nat} {w : Value} (h : (i, w) ∈ mlv ad lv) : ∃ v, lv[i]? = some v ∧ (∀ k, v ≠ .retAddr k) ∧ w = mv ad v := by
  unfold mlv at h
  obtain ⟨⟨v, j⟩, h1, h2⟩ := List.mem_filterMap.mp h
  obtain ⟨k, hk⟩ := List.getElem?_of_mem h1
  rw [List.getElem?_zipIdx] at hk
  cases hv : lv[k]? with
  | none => rw [hv] at hk; cases hk
  | some u =>
    rw [hv] at hk
    simp at hk
    obtain ⟨rfl, rfl⟩ := hk
    cases u <;> first | (simp at h2; obtain ⟨rfl, rfl⟩ := h2; exact ⟨_, hv, fun k q => (by cases q), rfl⟩) | (simp at h2)
theorem mls_at {ad : Nat → Nat} {nL : Nat} {ls : Array Slot} {lv : List Value} (h : lv_has ls nL (mlv ad lv)) {i : Nat} {v : Value} (hv : lv[i]? = some v) (hn : ∀ k, v ≠ .retAddr k) : ls[i]? = some (.val (mv ad v)) := h.2.2 _ (mlv_mem hv hn)
/-- a store: an older long's first half is lost where its second one is written -/
def mst (lv : List Value) (i : Nat) (v : Value) : List Value := match i with
  | 0 => lv.set 0 v
  | k + 1 => match lv[k]? with
    | some (.long _) => (lv.set (k + 1) v).set k (.retAddr 0)
    | some (.double _) => (lv.set (k + 1) v).set k (.retAddr 0)
    | _ => lv.set (k + 1) v
def mst2 (lv : List Value) (i : Nat) (v : Value) : List Value := (mst lv i v).set (i + 1) (.retAddr 0)
theorem mv_cat (ad : Nat → Nat) (v : Value) : (mv ad v).category = v.category := by cases v <;> rfl
theorem mst_get {lv : List Value} {i : Nat} {v u : Value} {j : Nat} (h : (mst lv i v)[j]? = some u) (hu : ∀ k, u ≠ .retAddr k) : (j = i ∧ u = v) ∨ (j ≠ i ∧ lv[j]? = some u ∧ ¬ (j + 1 = i ∧ u.category = 2)) := by
  unfold mst at h
  cases i with
  | zero =>
    dsimp only at h
    rw [List.getElem?_set] at h
    by_cases e : 0 = j
    · rw [if_pos e] at h
      split at h
      · exact Or.inl ⟨e.symm, (Option.some.inj h).symm⟩
      · cases h
    · rw [if_neg e] at h
      exact Or.inr ⟨fun q => e q.symm, h, fun q => by omega⟩
  | succ k =>
    dsimp only at h
    have base : ∀ z : Option Value, (lv.set (k + 1) v)[j]? = some u → lv[k]? = z → (∀ x, z = some x → x.category ≠ 2) → (j = k + 1 ∧ u = v) ∨ (j ≠ k + 1 ∧ lv[j]? = some u ∧ ¬ (j + 1 = k + 1 ∧ u.category = 2)) := by
      intro z h0 hz hc
      rw [List.getElem?_set] at h0
      by_cases e : k + 1 = j
      · rw [if_pos e] at h0
        split at h0
        · exact Or.inl ⟨e.symm, (Option.some.inj h0).symm⟩
        · cases h0
      · rw [if_neg e] at h0
        refine Or.inr ⟨fun q => e q.symm, h0, fun q => ?_⟩
        have e2 : j = k := by omega
        rw [e2] at h0
        exact hc u (by rw [← hz, h0]) q.2
    have two : ((lv.set (k + 1) v).set k (.retAddr 0))[j]? = some u → (j = k + 1 ∧ u = v) ∨ (j ≠ k + 1 ∧ lv[j]? = some u ∧ ¬ (j + 1 = k + 1 ∧ u.category = 2)) := by
      intro h0
      rw [List.getElem?_set] at h0
      by_cases e : k = j
      · rw [if_pos e] at h0
        split at h0
        · exact absurd (Option.some.inj h0).symm (hu 0)
        · cases h0
      · rw [if_neg e, List.getElem?_set] at h0
        by_cases e1 : k + 1 = j
        · rw [if_pos e1] at h0
          split at h0
          · exact Or.inl ⟨e1.symm, (Option.some.inj h0).symm⟩
          · cases h0
        · rw [if_neg e1] at h0
          exact Or.inr ⟨fun q => e1 q.symm, h0, fun q => by omega⟩
    cases hz : lv[k]? with
    | none =>
      rw [hz] at h
      exact base _ h hz (fun x q => by cases q)
    | some z =>
      rw [hz] at h
      cases z with
      | long _ => exact two h
      | double _ => exact two h
      | int _ => exact base _ h hz (fun x q => by cases q; simp [Value.category])
      | float _ => exact base _ h hz (fun x q => by cases q; simp [Value.category])
      | null => exact base _ h hz (fun x q => by cases q; simp [Value.category])
      | ref _ => exact base _ h hz (fun x q => by cases q; simp [Value.category])
      | retAddr _ => exact base _ h hz (fun x q => by cases q; simp [Value.category])
theorem mls_st {ad : Nat → Nat} {nL i : Nat} {ls : Array Slot} {lv : List Value} {v : Value} (h : lv_has ls nL ((i, mv ad v) :: (mlv ad lv).filter (fun q => !(q.1 == i) && !(q.1 + 1 == i && q.2.category == 2)))) : lv_has ls nL (mlv ad (mst lv i v)) := by
  refine ⟨h.1, h.2.1, fun q hq => h.2.2 q ?_⟩
  obtain ⟨j, w⟩ := q
  obtain ⟨u, h1, h2, rfl⟩ := mlv_of hq
  rcases mst_get h1 h2 with ⟨rfl, rfl⟩ | ⟨hj, h3, h4⟩
  · exact List.mem_cons_self
  · refine List.mem_cons_of_mem _ (List.mem_filter.mpr ⟨mlv_mem h3 h2, ?_⟩)
    rw [mv_cat]
    simp only [Bool.and_eq_true, Bool.not_eq_true', beq_eq_false_iff_ne, ne_eq, Bool.and_eq_false_iff]
    refine ⟨hj, ?_⟩
    by_cases e : j + 1 = i
    · exact Or.inr (fun q => h4 ⟨e, q⟩)
    · exact Or.inl e
theorem mls_st2 {ad : Nat → Nat} {nL i : Nat} {ls : Array Slot} {lv : List Value} {v : Value} (h : lv_has ls nL ((i, mv ad v) :: (mlv ad lv).filter (fun q => !(q.1 == i) && (!(q.1 == i + 1) && !(q.1 + 1 == i && q.2.category == 2))))) : lv_has ls nL (mlv ad (mst2 lv i v)) := by
  refine ⟨h.1, h.2.1, fun q hq => h.2.2 q ?_⟩
  obtain ⟨j, w⟩ := q
  obtain ⟨u, h1, h2, rfl⟩ := mlv_of hq
  unfold mst2 at h1
  rw [List.getElem?_set] at h1
  by_cases e1 : i + 1 = j
  · rw [if_pos e1] at h1
    split at h1
    · exact absurd (Option.some.inj h1).symm (h2 0)
    · cases h1
  · rw [if_neg e1] at h1
    rcases mst_get h1 h2 with ⟨rfl, rfl⟩ | ⟨hj, h3, h4⟩
    · exact List.mem_cons_self
    · refine List.mem_cons_of_mem _ (List.mem_filter.mpr ⟨mlv_mem h3 h2, ?_⟩)
      rw [mv_cat]
      simp only [Bool.and_eq_true, Bool.not_eq_true', beq_eq_false_iff_ne, ne_eq, Bool.and_eq_false_iff]
      refine ⟨hj, fun q => e1 q.symm, ?_⟩
      by_cases e : j + 1 = i
      · exact Or.inr (fun q => h4 ⟨e, q⟩)
      · exact Or.inl e
end
section
section MR
variable {K : mK} {M : MD} {cs sl n : Nat} {hp : mHp} {pc : Nat} {lv st : List Value}
theorem m_iconst {z : Int} {v : Int32} (hd : decode (dC M) pc = .ok (.iconst z, 1)) (hv : Int32.ofInt z = v) (kk : mW K M cs sl n hp (pc + 1) lv (.int v :: st)) : mW K M cs sl n hp pc lv (st) := fun hk H locs ls hR hl => lv_iconst hk.1 hk.2.1 hd hv (kk hk H locs ls hR hl)
theorem m_bipush {z : Int} {v : Int32} (hd : decode (dC M) pc = .ok (.bipush z, 2)) (hv : (Int8.ofInt z).toInt32 = v) (kk : mW K M cs sl n hp (pc + 2) lv (.int v :: st)) : mW K M cs sl n hp pc lv (st) := fun hk H locs ls hR hl => lv_bipush hk.1 hk.2.1 hd hv (kk hk H locs ls hR hl)
theorem m_sipush {z : Int} {v : Int32} (hd : decode (dC M) pc = .ok (.sipush z, 3)) (hv : (Int16.ofInt z).toInt32 = v) (kk : mW K M cs sl n hp (pc + 3) lv (.int v :: st)) : mW K M cs sl n hp pc lv (st) := fun hk H locs ls hR hl => lv_sipush hk.1 hk.2.1 hd hv (kk hk H locs ls hR hl)
theorem m_lconst {z : Fin 2} {v : Int64} (hd : decode (dC M) pc = .ok (.lconst z, 1)) (hv : Int64.ofNat (z : Nat) = v) (kk : mW K M cs sl n hp (pc + 1) lv (.long v :: st)) : mW K M cs sl n hp pc lv (st) := fun hk H locs ls hR hl => lv_lconst hk.1 hk.2.1 hd hv (kk hk H locs ls hR hl)
theorem m_ldc {ix : Nat} {v : Int32} (hd : decode (dC M) pc = .ok (.ldc ix, 2)) (hc : Cond.constant (dOwn M) ix v ∈ TB) (kk : mW K M cs sl n hp (pc + 2) lv (.int v :: st)) : mW K M cs sl n hp pc lv (st) := fun hk H locs ls hR hl => lv_ldc hk.1 hk.2.1 hk.2.2.2.1 (hk.2.2.2.2.1 _ hc) hd (kk hk H locs ls hR hl)
theorem m_ldcw {ix : Nat} {v : Int32} (hd : decode (dC M) pc = .ok (.ldc_w ix, 3)) (hc : Cond.constant (dOwn M) ix v ∈ TB) (kk : mW K M cs sl n hp (pc + 3) lv (.int v :: st)) : mW K M cs sl n hp pc lv (st) := fun hk H locs ls hR hl => lv_ldcw hk.1 hk.2.1 hk.2.2.2.1 (hk.2.2.2.2.1 _ hc) hd (kk hk H locs ls hR hl)
theorem m_ldc2 {ix : Nat} {v : Int64} (hd : decode (dC M) pc = .ok (.ldc2_w ix, 3)) (hc : Cond.constantLong (dOwn M) ix v ∈ TB) (kk : mW K M cs sl n hp (pc + 3) lv (.long v :: st)) : mW K M cs sl n hp pc lv (st) := fun hk H locs ls hR hl => lv_ldc2 hk.1 hk.2.1 hk.2.2.2.1 (hk.2.2.2.2.1 _ hc) hd (kk hk H locs ls hR hl)
theorem m_iload_n {k : Fin 4} {x : Int32} (hd : decode (dC M) pc = .ok (.iload_n k, 1)) (hv : lv[(k : Nat)]? = some (.int x)) (kk : mW K M cs sl n hp (pc + 1) lv (.int x :: st)) : mW K M cs sl n hp pc lv (st) := fun hk H locs ls hR hl => lv_iload_n hk.1 hk.2.1 hd rfl (mls_at hl hv (fun _ q => by cases q)) (kk hk H locs ls hR hl)
theorem m_iload {k : Nat} {x : Int32} (hd : decode (dC M) pc = .ok (.iload k, 2)) (hv : lv[k]? = some (.int x)) (kk : mW K M cs sl n hp (pc + 2) lv (.int x :: st)) : mW K M cs sl n hp pc lv (st) := fun hk H locs ls hR hl => lv_iload hk.1 hk.2.1 hd (mls_at hl hv (fun _ q => by cases q)) (kk hk H locs ls hR hl)
theorem m_istore_n {k : Fin 4} {x : Int32} (hd : decode (dC M) pc = .ok (.istore_n k, 1)) (hn : (k : Nat) < dL M) (kk : mW K M cs sl n hp (pc + 1) (mst lv (k : Nat) (.int x)) st) : mW K M cs sl n hp pc lv (.int x :: st) := fun hk H locs ls hR hl => lv_istore_n hk.1 hk.2.1 hd rfl hl hn rfl (fun ls' hl' => kk hk H locs ls' hR (mls_st (v := .int x) hl'))
theorem m_istore {k : Nat} {x : Int32} (hd : decode (dC M) pc = .ok (.istore k, 2)) (hn : k < dL M) (kk : mW K M cs sl n hp (pc + 2) (mst lv k (.int x)) st) : mW K M cs sl n hp pc lv (.int x :: st) := fun hk H locs ls hR hl => lv_istore hk.1 hk.2.1 hd hl hn rfl (fun ls' hl' => kk hk H locs ls' hR (mls_st (v := .int x) hl'))
theorem m_lload_n {k : Fin 4} {x : Int64} (hd : decode (dC M) pc = .ok (.lload_n k, 1)) (hv : lv[(k : Nat)]? = some (.long x)) (kk : mW K M cs sl n hp (pc + 1) lv (.long x :: st)) : mW K M cs sl n hp pc lv (st) := fun hk H locs ls hR hl => lv_lload_n hk.1 hk.2.1 hd rfl (mls_at hl hv (fun _ q => by cases q)) (kk hk H locs ls hR hl)
theorem m_lload {k : Nat} {x : Int64} (hd : decode (dC M) pc = .ok (.lload k, 2)) (hv : lv[k]? = some (.long x)) (kk : mW K M cs sl n hp (pc + 2) lv (.long x :: st)) : mW K M cs sl n hp pc lv (st) := fun hk H locs ls hR hl => lv_lload hk.1 hk.2.1 hd (mls_at hl hv (fun _ q => by cases q)) (kk hk H locs ls hR hl)
theorem m_lstore_n {k : Fin 4} {x : Int64} (hd : decode (dC M) pc = .ok (.lstore_n k, 1)) (hn : (k : Nat) + 1 < dL M) (kk : mW K M cs sl n hp (pc + 1) (mst2 lv (k : Nat) (.long x)) st) : mW K M cs sl n hp pc lv (.long x :: st) := fun hk H locs ls hR hl => lv_lstore_n hk.1 hk.2.1 hd rfl hl hn rfl (fun ls' hl' => kk hk H locs ls' hR (mls_st2 (v := .long x) hl'))
theorem m_lstore {k : Nat} {x : Int64} (hd : decode (dC M) pc = .ok (.lstore k, 2)) (hn : k + 1 < dL M) (kk : mW K M cs sl n hp (pc + 2) (mst2 lv k (.long x)) st) : mW K M cs sl n hp pc lv (.long x :: st) := fun hk H locs ls hR hl => lv_lstore hk.1 hk.2.1 hd hl hn rfl (fun ls' hl' => kk hk H locs ls' hR (mls_st2 (v := .long x) hl'))
theorem m_aload_n {k : Fin 4} {x : Nat} (hd : decode (dC M) pc = .ok (.aload_n k, 1)) (hv : lv[(k : Nat)]? = some (.ref x)) (kk : mW K M cs sl n hp (pc + 1) lv (.ref x :: st)) : mW K M cs sl n hp pc lv (st) := fun hk H locs ls hR hl => lv_aload_n hk.1 hk.2.1 hd rfl (mls_at hl hv (fun _ q => by cases q)) (kk hk H locs ls hR hl)
theorem m_aload {k : Nat} {x : Nat} (hd : decode (dC M) pc = .ok (.aload k, 2)) (hv : lv[k]? = some (.ref x)) (kk : mW K M cs sl n hp (pc + 2) lv (.ref x :: st)) : mW K M cs sl n hp pc lv (st) := fun hk H locs ls hR hl => lv_aload hk.1 hk.2.1 hd (mls_at hl hv (fun _ q => by cases q)) (kk hk H locs ls hR hl)
theorem m_astore_n {k : Fin 4} {x : Nat} (hd : decode (dC M) pc = .ok (.astore_n k, 1)) (hn : (k : Nat) < dL M) (kk : mW K M cs sl n hp (pc + 1) (mst lv (k : Nat) (.ref x)) st) : mW K M cs sl n hp pc lv (.ref x :: st) := fun hk H locs ls hR hl => lv_astore_n hk.1 hk.2.1 hd rfl hl hn rfl (fun ls' hl' => kk hk H locs ls' hR (mls_st (v := .ref x) hl'))
theorem m_astore {k : Nat} {x : Nat} (hd : decode (dC M) pc = .ok (.astore k, 2)) (hn : k < dL M) (kk : mW K M cs sl n hp (pc + 2) (mst lv k (.ref x)) st) : mW K M cs sl n hp pc lv (.ref x :: st) := fun hk H locs ls hR hl => lv_astore hk.1 hk.2.1 hd hl hn rfl (fun ls' hl' => kk hk H locs ls' hR (mls_st (v := .ref x) hl'))
theorem m_iinc {k : Nat} {z : Int} {x v : Int32} (hd : decode (dC M) pc = .ok (.iinc k z, 3)) (hx : lv[k]? = some (.int x)) (hv : x + Int32.ofInt z = v) (hn : k < dL M) (kk : mW K M cs sl n hp (pc + 3) (mst lv k (.int v)) st) : mW K M cs sl n hp pc lv st := fun hk H locs ls hR hl => by
  obtain ⟨j, hj⟩ := List.getElem?_of_mem (mlv_mem (ad := K.2.2.1.2.2.1) hx (fun _ q => by cases q))
  exact lv_iinc hk.1 hk.2.1 hd hl hj hv hn rfl (fun ls' hl' => kk hk H locs ls' hR (mls_st (v := .int v) hl'))
theorem m_iadd {x y : Int32} (hd : decode (dC M) pc = .ok (.iadd, 1)) (kk : mW K M cs sl n hp (pc + 1) lv (.int (x + y) :: st)) : mW K M cs sl n hp pc lv (.int y :: .int x :: st) := fun hk H locs ls hR hl => lv_iadd hk.1 hk.2.1 hd (kk hk H locs ls hR hl)
theorem m_isub {x y : Int32} (hd : decode (dC M) pc = .ok (.isub, 1)) (kk : mW K M cs sl n hp (pc + 1) lv (.int (x - y) :: st)) : mW K M cs sl n hp pc lv (.int y :: .int x :: st) := fun hk H locs ls hR hl => lv_isub hk.1 hk.2.1 hd (kk hk H locs ls hR hl)
theorem m_imul {x y : Int32} (hd : decode (dC M) pc = .ok (.imul, 1)) (kk : mW K M cs sl n hp (pc + 1) lv (.int (x * y) :: st)) : mW K M cs sl n hp pc lv (.int y :: .int x :: st) := fun hk H locs ls hR hl => lv_imul hk.1 hk.2.1 hd (kk hk H locs ls hR hl)
theorem m_iand {x y : Int32} (hd : decode (dC M) pc = .ok (.iand, 1)) (kk : mW K M cs sl n hp (pc + 1) lv (.int (x &&& y) :: st)) : mW K M cs sl n hp pc lv (.int y :: .int x :: st) := fun hk H locs ls hR hl => lv_iand hk.1 hk.2.1 hd (kk hk H locs ls hR hl)
theorem m_ior {x y : Int32} (hd : decode (dC M) pc = .ok (.ior, 1)) (kk : mW K M cs sl n hp (pc + 1) lv (.int (x ||| y) :: st)) : mW K M cs sl n hp pc lv (.int y :: .int x :: st) := fun hk H locs ls hR hl => lv_ior hk.1 hk.2.1 hd (kk hk H locs ls hR hl)
theorem m_ishl {x y : Int32} (hd : decode (dC M) pc = .ok (.ishl, 1)) (kk : mW K M cs sl n hp (pc + 1) lv (.int (x <<< (y &&& 31)) :: st)) : mW K M cs sl n hp pc lv (.int y :: .int x :: st) := fun hk H locs ls hR hl => lv_ishl hk.1 hk.2.1 hd (kk hk H locs ls hR hl)
theorem m_ishr {x y : Int32} (hd : decode (dC M) pc = .ok (.ishr, 1)) (kk : mW K M cs sl n hp (pc + 1) lv (.int (x >>> (y &&& 31)) :: st)) : mW K M cs sl n hp pc lv (.int y :: .int x :: st) := fun hk H locs ls hR hl => lv_ishr hk.1 hk.2.1 hd (kk hk H locs ls hR hl)
theorem m_iushr {x y : Int32} (hd : decode (dC M) pc = .ok (.iushr, 1)) (kk : mW K M cs sl n hp (pc + 1) lv (.int ((x.toUInt32 >>> (y.toUInt32 &&& Int32.toUInt32 31)).toInt32) :: st)) : mW K M cs sl n hp pc lv (.int y :: .int x :: st) := fun hk H locs ls hR hl => lv_iushr hk.1 hk.2.1 hd rfl (kk hk H locs ls hR hl)
theorem m_ladd {x y : Int64} (hd : decode (dC M) pc = .ok (.ladd, 1)) (kk : mW K M cs sl n hp (pc + 1) lv (.long (x + y) :: st)) : mW K M cs sl n hp pc lv (.long y :: .long x :: st) := fun hk H locs ls hR hl => lv_ladd hk.1 hk.2.1 hd (kk hk H locs ls hR hl)
theorem m_lsub {x y : Int64} (hd : decode (dC M) pc = .ok (.lsub, 1)) (kk : mW K M cs sl n hp (pc + 1) lv (.long (x - y) :: st)) : mW K M cs sl n hp pc lv (.long y :: .long x :: st) := fun hk H locs ls hR hl => lv_lsub hk.1 hk.2.1 hd (kk hk H locs ls hR hl)
theorem m_lmul {x y : Int64} (hd : decode (dC M) pc = .ok (.lmul, 1)) (kk : mW K M cs sl n hp (pc + 1) lv (.long (x * y) :: st)) : mW K M cs sl n hp pc lv (.long y :: .long x :: st) := fun hk H locs ls hR hl => lv_lmul hk.1 hk.2.1 hd (kk hk H locs ls hR hl)
theorem m_land {x y : Int64} (hd : decode (dC M) pc = .ok (.land, 1)) (kk : mW K M cs sl n hp (pc + 1) lv (.long (x &&& y) :: st)) : mW K M cs sl n hp pc lv (.long y :: .long x :: st) := fun hk H locs ls hR hl => lv_land hk.1 hk.2.1 hd (kk hk H locs ls hR hl)
theorem m_lor {x y : Int64} (hd : decode (dC M) pc = .ok (.lor, 1)) (kk : mW K M cs sl n hp (pc + 1) lv (.long (x ||| y) :: st)) : mW K M cs sl n hp pc lv (.long y :: .long x :: st) := fun hk H locs ls hR hl => lv_lor hk.1 hk.2.1 hd (kk hk H locs ls hR hl)
theorem m_lshl {x : Int64} {y : Int32} (hd : decode (dC M) pc = .ok (.lshl, 1)) (kk : mW K M cs sl n hp (pc + 1) lv (.long (x <<< (y.toInt64 &&& 63)) :: st)) : mW K M cs sl n hp pc lv (.int y :: .long x :: st) := fun hk H locs ls hR hl => lv_lshl hk.1 hk.2.1 hd rfl (kk hk H locs ls hR hl)
theorem m_lshr {x : Int64} {y : Int32} (hd : decode (dC M) pc = .ok (.lshr, 1)) (kk : mW K M cs sl n hp (pc + 1) lv (.long (x >>> (y.toInt64 &&& 63)) :: st)) : mW K M cs sl n hp pc lv (.int y :: .long x :: st) := fun hk H locs ls hR hl => lv_lshr hk.1 hk.2.1 hd rfl (kk hk H locs ls hR hl)
theorem m_idiv {x y : Int32} (hd : decode (dC M) pc = .ok (.idiv, 1)) (hy : ¬ y = 0) (kk : mW K M cs sl n hp (pc + 1) lv (.int (x / y) :: st)) : mW K M cs sl n hp pc lv (.int y :: .int x :: st) := fun hk H locs ls hR hl => lv_idiv hk.1 hk.2.1 hd hy (kk hk H locs ls hR hl)
theorem m_irem {x y : Int32} (hd : decode (dC M) pc = .ok (.irem, 1)) (hy : ¬ y = 0) (kk : mW K M cs sl n hp (pc + 1) lv (.int (x - x / y * y) :: st)) : mW K M cs sl n hp pc lv (.int y :: .int x :: st) := fun hk H locs ls hR hl => lv_irem hk.1 hk.2.1 hd hy (kk hk H locs ls hR hl)
theorem m_ldiv {x y : Int64} (hd : decode (dC M) pc = .ok (.ldiv, 1)) (hy : ¬ y = 0) (kk : mW K M cs sl n hp (pc + 1) lv (.long (x / y) :: st)) : mW K M cs sl n hp pc lv (.long y :: .long x :: st) := fun hk H locs ls hR hl => lv_ldiv hk.1 hk.2.1 hd hy (kk hk H locs ls hR hl)
theorem m_lrem {x y : Int64} (hd : decode (dC M) pc = .ok (.lrem, 1)) (hy : ¬ y = 0) (kk : mW K M cs sl n hp (pc + 1) lv (.long (x - x / y * y) :: st)) : mW K M cs sl n hp pc lv (.long y :: .long x :: st) := fun hk H locs ls hR hl => lv_lrem hk.1 hk.2.1 hd hy (kk hk H locs ls hR hl)
theorem m_ineg {x : Int32} (hd : decode (dC M) pc = .ok (.ineg, 1)) (kk : mW K M cs sl n hp (pc + 1) lv (.int (-x) :: st)) : mW K M cs sl n hp pc lv (.int x :: st) := fun hk H locs ls hR hl => lv_ineg hk.1 hk.2.1 hd (kk hk H locs ls hR hl)
theorem m_lneg {x : Int64} (hd : decode (dC M) pc = .ok (.lneg, 1)) (kk : mW K M cs sl n hp (pc + 1) lv (.long (-x) :: st)) : mW K M cs sl n hp pc lv (.long x :: st) := fun hk H locs ls hR hl => lv_lneg hk.1 hk.2.1 hd (kk hk H locs ls hR hl)
theorem m_i2l {x : Int32} (hd : decode (dC M) pc = .ok (.i2l, 1)) (kk : mW K M cs sl n hp (pc + 1) lv (.long (x.toInt64) :: st)) : mW K M cs sl n hp pc lv (.int x :: st) := fun hk H locs ls hR hl => lv_i2l hk.1 hk.2.1 hd rfl (kk hk H locs ls hR hl)
theorem m_l2i {x : Int64} (hd : decode (dC M) pc = .ok (.l2i, 1)) (kk : mW K M cs sl n hp (pc + 1) lv (.int (x.toInt32) :: st)) : mW K M cs sl n hp pc lv (.long x :: st) := fun hk H locs ls hR hl => lv_l2i hk.1 hk.2.1 hd rfl (kk hk H locs ls hR hl)
theorem m_i2b {x : Int32} (hd : decode (dC M) pc = .ok (.i2b, 1)) (kk : mW K M cs sl n hp (pc + 1) lv (.int (x.toInt8.toInt32) :: st)) : mW K M cs sl n hp pc lv (.int x :: st) := fun hk H locs ls hR hl => lv_i2b hk.1 hk.2.1 hd rfl (kk hk H locs ls hR hl)
theorem m_i2s {x : Int32} (hd : decode (dC M) pc = .ok (.i2s, 1)) (kk : mW K M cs sl n hp (pc + 1) lv (.int (x.toInt16.toInt32) :: st)) : mW K M cs sl n hp pc lv (.int x :: st) := fun hk H locs ls hR hl => lv_i2s hk.1 hk.2.1 hd rfl (kk hk H locs ls hR hl)
theorem m_lcmp {x y : Int64} (hd : decode (dC M) pc = .ok (.lcmp, 1)) (kk : mW K M cs sl n hp (pc + 1) lv (.int (lg_cmp x y) :: st)) : mW K M cs sl n hp pc lv (.long y :: .long x :: st) := fun hk H locs ls hR hl => W.lcmp hk.1 hk.2.1 hd (kk hk H locs ls hR hl)
theorem m_dup {v : Value} (hd : decode (dC M) pc = .ok (.dup, 1)) (hc : v.category = 1) (kk : mW K M cs sl n hp (pc + 1) lv (v :: v :: st)) : mW K M cs sl n hp pc lv (v :: st) := fun hk H locs ls hR hl => lv_dup hk.1 hk.2.1 hd ((mv_cat _ _).trans hc) (kk hk H locs ls hR hl)
theorem m_dup2 {v w : Value} (hd : decode (dC M) pc = .ok (.dup2, 1)) (hc : v.category = 1) (hw : w.category = 1) (kk : mW K M cs sl n hp (pc + 1) lv (v :: w :: v :: w :: st)) : mW K M cs sl n hp pc lv (v :: w :: st) := fun hk H locs ls hR hl => lv_dup2_11 hk.1 hk.2.1 hd ((mv_cat _ _).trans hc) ((mv_cat _ _).trans hw) (kk hk H locs ls hR hl)
theorem m_pop {v : Value} (hd : decode (dC M) pc = .ok (.pop, 1)) (hc : v.category = 1) (kk : mW K M cs sl n hp (pc + 1) lv st) : mW K M cs sl n hp pc lv (v :: st) := fun hk H locs ls hR hl => lv_pop hk.1 hk.2.1 hd ((mv_cat _ _).trans hc) (kk hk H locs ls hR hl)
theorem m_if_eq {x : Int32} {o : Int} {t : Nat} (hd : decode (dC M) pc = .ok (.ifCond .eq o, 3)) (ht : (pc : Int) + o = (t : Int)) (kt : x = 0 → mW K M cs sl n hp t lv st) (kf : ¬ x = 0 → mW K M cs sl n hp (pc + 3) lv st) : mW K M cs sl n hp pc lv (.int x :: st) := fun hk H locs ls hR hl => lv_if_eq hk.1 hk.2.1 hd ht (fun q => kt q hk H locs ls hR hl) (fun q => kf q hk H locs ls hR hl)
theorem m_if_ne {x : Int32} {o : Int} {t : Nat} (hd : decode (dC M) pc = .ok (.ifCond .ne o, 3)) (ht : (pc : Int) + o = (t : Int)) (kt : ¬ x = 0 → mW K M cs sl n hp t lv st) (kf : x = 0 → mW K M cs sl n hp (pc + 3) lv st) : mW K M cs sl n hp pc lv (.int x :: st) := fun hk H locs ls hR hl => lv_if_ne hk.1 hk.2.1 hd ht (fun q => kt q hk H locs ls hR hl) (fun q => kf q hk H locs ls hR hl)
theorem m_if_lt {x : Int32} {o : Int} {t : Nat} (hd : decode (dC M) pc = .ok (.ifCond .lt o, 3)) (ht : (pc : Int) + o = (t : Int)) (kt : x < 0 → mW K M cs sl n hp t lv st) (kf : ¬ x < 0 → mW K M cs sl n hp (pc + 3) lv st) : mW K M cs sl n hp pc lv (.int x :: st) := fun hk H locs ls hR hl => lv_if_lt hk.1 hk.2.1 hd ht (fun q => kt q hk H locs ls hR hl) (fun q => kf q hk H locs ls hR hl)
theorem m_if_ge {x : Int32} {o : Int} {t : Nat} (hd : decode (dC M) pc = .ok (.ifCond .ge o, 3)) (ht : (pc : Int) + o = (t : Int)) (kt : 0 ≤ x → mW K M cs sl n hp t lv st) (kf : ¬ 0 ≤ x → mW K M cs sl n hp (pc + 3) lv st) : mW K M cs sl n hp pc lv (.int x :: st) := fun hk H locs ls hR hl => lv_if_ge hk.1 hk.2.1 hd ht (fun q => kt q hk H locs ls hR hl) (fun q => kf q hk H locs ls hR hl)
theorem m_if_gt {x : Int32} {o : Int} {t : Nat} (hd : decode (dC M) pc = .ok (.ifCond .gt o, 3)) (ht : (pc : Int) + o = (t : Int)) (kt : 0 < x → mW K M cs sl n hp t lv st) (kf : ¬ 0 < x → mW K M cs sl n hp (pc + 3) lv st) : mW K M cs sl n hp pc lv (.int x :: st) := fun hk H locs ls hR hl => lv_if_gt hk.1 hk.2.1 hd ht (fun q => kt q hk H locs ls hR hl) (fun q => kf q hk H locs ls hR hl)
theorem m_if_le {x : Int32} {o : Int} {t : Nat} (hd : decode (dC M) pc = .ok (.ifCond .le o, 3)) (ht : (pc : Int) + o = (t : Int)) (kt : x ≤ 0 → mW K M cs sl n hp t lv st) (kf : ¬ x ≤ 0 → mW K M cs sl n hp (pc + 3) lv st) : mW K M cs sl n hp pc lv (.int x :: st) := fun hk H locs ls hR hl => lv_if_le hk.1 hk.2.1 hd ht (fun q => kt q hk H locs ls hR hl) (fun q => kf q hk H locs ls hR hl)
theorem m_icmp_eq {x y : Int32} {o : Int} {t : Nat} (hd : decode (dC M) pc = .ok (.if_icmp .eq o, 3)) (ht : (pc : Int) + o = (t : Int)) (kt : x = y → mW K M cs sl n hp t lv st) (kf : ¬ x = y → mW K M cs sl n hp (pc + 3) lv st) : mW K M cs sl n hp pc lv (.int y :: .int x :: st) := fun hk H locs ls hR hl => lv_icmp_eq hk.1 hk.2.1 hd ht (fun q => kt q hk H locs ls hR hl) (fun q => kf q hk H locs ls hR hl)
theorem m_icmp_ne {x y : Int32} {o : Int} {t : Nat} (hd : decode (dC M) pc = .ok (.if_icmp .ne o, 3)) (ht : (pc : Int) + o = (t : Int)) (kt : ¬ x = y → mW K M cs sl n hp t lv st) (kf : x = y → mW K M cs sl n hp (pc + 3) lv st) : mW K M cs sl n hp pc lv (.int y :: .int x :: st) := fun hk H locs ls hR hl => lv_icmp_ne hk.1 hk.2.1 hd ht (fun q => kt q hk H locs ls hR hl) (fun q => kf q hk H locs ls hR hl)
theorem m_icmp_lt {x y : Int32} {o : Int} {t : Nat} (hd : decode (dC M) pc = .ok (.if_icmp .lt o, 3)) (ht : (pc : Int) + o = (t : Int)) (kt : x < y → mW K M cs sl n hp t lv st) (kf : ¬ x < y → mW K M cs sl n hp (pc + 3) lv st) : mW K M cs sl n hp pc lv (.int y :: .int x :: st) := fun hk H locs ls hR hl => lv_icmp_lt hk.1 hk.2.1 hd ht (fun q => kt q hk H locs ls hR hl) (fun q => kf q hk H locs ls hR hl)
theorem m_icmp_ge {x y : Int32} {o : Int} {t : Nat} (hd : decode (dC M) pc = .ok (.if_icmp .ge o, 3)) (ht : (pc : Int) + o = (t : Int)) (kt : y ≤ x → mW K M cs sl n hp t lv st) (kf : ¬ y ≤ x → mW K M cs sl n hp (pc + 3) lv st) : mW K M cs sl n hp pc lv (.int y :: .int x :: st) := fun hk H locs ls hR hl => lv_icmp_ge hk.1 hk.2.1 hd ht (fun q => kt q hk H locs ls hR hl) (fun q => kf q hk H locs ls hR hl)
theorem m_icmp_gt {x y : Int32} {o : Int} {t : Nat} (hd : decode (dC M) pc = .ok (.if_icmp .gt o, 3)) (ht : (pc : Int) + o = (t : Int)) (kt : y < x → mW K M cs sl n hp t lv st) (kf : ¬ y < x → mW K M cs sl n hp (pc + 3) lv st) : mW K M cs sl n hp pc lv (.int y :: .int x :: st) := fun hk H locs ls hR hl => lv_icmp_gt hk.1 hk.2.1 hd ht (fun q => kt q hk H locs ls hR hl) (fun q => kf q hk H locs ls hR hl)
theorem m_icmp_le {x y : Int32} {o : Int} {t : Nat} (hd : decode (dC M) pc = .ok (.if_icmp .le o, 3)) (ht : (pc : Int) + o = (t : Int)) (kt : x ≤ y → mW K M cs sl n hp t lv st) (kf : ¬ x ≤ y → mW K M cs sl n hp (pc + 3) lv st) : mW K M cs sl n hp pc lv (.int y :: .int x :: st) := fun hk H locs ls hR hl => lv_icmp_le hk.1 hk.2.1 hd ht (fun q => kt q hk H locs ls hR hl) (fun q => kf q hk H locs ls hR hl)
theorem m_goto {o : Int} {t : Nat} (hd : decode (dC M) pc = .ok (.goto o, 3)) (ht : (pc : Int) + o = (t : Int)) (kk : mW K M cs sl n hp t lv st) : mW K M cs sl n hp pc lv st := fun hk H locs ls hR hl => lv_goto hk.1 hk.2.1 hd ht (kk hk H locs ls hR hl)
theorem m_tabOut {dflt lo hi : Int} {offs : Array Int} {len : Nat} {x : Int32} {t : Nat} (hd : decode (dC M) pc = .ok (.tableswitch dflt lo hi offs, len)) (h : x.toInt < lo ∨ hi < x.toInt) (ht : (pc : Int) + dflt = (t : Int)) (kk : mW K M cs sl n hp t lv st) : mW K M cs sl n hp pc lv (.int x :: st) := fun hk H locs ls hR hl => lv_tableOut hk.1 hk.2.1 hd h ht (kk hk H locs ls hR hl)
theorem m_tabIn {dflt lo hi : Int} {offs : Array Int} {len : Nat} {x : Int32} {o : Int} {t : Nat} (hd : decode (dC M) pc = .ok (.tableswitch dflt lo hi offs, len)) (h1 : ¬ x.toInt < lo) (h2 : ¬ hi < x.toInt) (ho : offs[(x.toInt - lo).toNat]? = some o) (ht : (pc : Int) + o = (t : Int)) (kk : mW K M cs sl n hp t lv st) : mW K M cs sl n hp pc lv (.int x :: st) := fun hk H locs ls hR hl => lv_tableIn hk.1 hk.2.1 hd h1 h2 ho ht (kk hk H locs ls hR hl)
end MR
end
section
/-! ===== rules that read and write cells ===== -/
theorem vwCl_99 : vwCl[99]? = none := rfl
theorem mN_of {ci : Nat} {q : vw_C} (h : vwCl[ci]? = some q) : mN ci = q.2.2 := by
  unfold mN
  rw [h]
theorem mlt_a {K : mK} {cs n : Nat} {hp : mHp} {H : Heap} {locs : List Loc} (hR : mRel K cs n hp H locs) {h : Nat} {a : FieldType × vp_A} (hc : hp h = .inl a) : h < n := by
  rcases Nat.lt_or_ge h n with q | q
  · exact q
  · rw [hR.2.2.2.1 h q] at hc
    cases hc
theorem mlt_o {K : mK} {cs n : Nat} {hp : mHp} {H : Heap} {locs : List Loc} (hR : mRel K cs n hp H locs) {h : Nat} {ci : Nat} {f : Nat → Value} (hc : hp h = .inr (ci, f)) {q : vw_C} (hq : vwCl[ci]? = some q) : h < n := by
  rcases Nat.lt_or_ge h n with z | z
  · exact z
  · rw [hR.2.2.2.1 h z] at hc
    have e : ci = 99 := by
      unfold mJ at hc
      have := Sum.inr.inj hc
      exact (congrArg Prod.fst this).symm
    rw [e, vwCl_99] at hq
    cases hq
theorem m_apart {dA : FieldType → ClassId} {ad : Nat → Nat} {n base : Nat} {hp : mHp} (had : ∀ h, h < mSC → ad h = base + h) (hn : n ≤ mSC) : va_D (mAc base) (mws dA ad n hp) := by
  refine ⟨fun i j p q hi hj e => ?_, fun k q hk => ?_⟩
  · by_cases h1 : i < n
    · by_cases h2 : j < n
      · rw [mws_at h1] at hi
        rw [mws_at h2] at hj
        cases hi
        cases hj
        have e : ad i = ad j := e
        rw [had i (by omega), had j (by omega)] at e
        omega
      · rw [mws_no h2] at hj
        cases hj
    · rw [mws_no h1] at hi
      cases hi
  · by_cases h1 : k < n
    · rw [mws_at h1] at hk
      cases hk
      show base ≤ ad k
      rw [had k (by omega)]
      omega
    · rw [mws_no h1] at hk
      cases hk
theorem range_set {α : Type} {N k : Nat} {g : Nat → α} {x : α} : ((List.range N).map g).set k x = (List.range N).map (va_up g k x) := by
  apply List.ext_getElem?
  intro i
  rw [List.getElem?_set, List.length_map, List.length_range, List.getElem?_map, List.getElem?_map]
  by_cases hi : i < N
  · rw [List.getElem?_range hi]
    by_cases e : k = i
    · subst e
      rw [if_pos rfl, if_pos hi]
      simp [va_up_self]
    · rw [if_neg e]
      simp [va_up_ne _ _ (fun q => e q.symm : ¬ i = k)]
  · have h0 : (List.range N)[i]? = none := List.getElem?_eq_none (by rw [List.length_range]; omega)
    rw [h0]
    by_cases e : k = i
    · subst e
      rw [if_pos rfl, if_neg hi]
      rfl
    · rw [if_neg e]
      rfl
theorem mv_up {ad : Nat → Nat} {f : Nat → Value} {k : Nat} {v : Value} : (fun j => mv ad (va_up f k v j)) = va_up (fun j => mv ad (f j)) k (mv ad v) := by
  funext j
  by_cases e : j = k
  · subst e
    rw [va_up_self, va_up_self]
  · rw [va_up_ne _ _ e, va_up_ne _ _ e]
/-- what a field's entry in the pool says -/
def mFL (own : String) (ix ci k : Nat) (ty : FieldType) (fin : Bool) : Prop := ∃ (C : String) (T : u_T) (N : Nat) (tys : Nat → FieldType), vwCl[ci]? = some (C, T, N) ∧ k < N ∧ (∀ w ∈ u_ws C T N, w ∈ TB) ∧ Cond.fieldLink own ix (T k).1 (T k).2.1 (T k).2.2.1 ∈ TB ∧ (∀ k, k < N → parseFieldDescriptor (T k).2.2.1 = some (tys k)) ∧ (∀ a, a < N → ∀ b, b < N → a ≠ b → (T a).2.1 ≠ (T b).2.1) ∧ tys k = ty ∧ (T k).2.2.2 = fin ∧ (fin = true → (T k).1 = own)
/-- an index: its number, within the length -/
def mIx (i : Int32) (k len : Nat) : Prop := i.toInt = (k : Int) ∧ k < len
theorem mIx.nn {i : Int32} {k len : Nat} (h : mIx i k len) : ¬ i < 0 := by
  rw [Int32.lt_iff_toInt_lt, h.1, Int32.toInt_zero]
  omega
theorem mIx.cl {i : Int32} {k len : Nat} (h : mIx i k len) : i.toNatClampNeg = k := by
  have : i.toNatClampNeg = i.toInt.toNat := rfl
  rw [this, h.1]
  rfl
theorem mIx.vp {i : Int32} {k len : Nat} (h : mIx i k len) : vp_in i len := by
  intro q
  rcases q with q | q
  · exact h.nn q
  · rw [h.cl] at q
    exact absurd h.2 (by omega)
section MH
variable {K : mK} {M : MD} {cs sl n : Nat} {hp : mHp} {pc : Nat} {lv st : List Value}
theorem m_getfield {ix ci k h : Nat} {ty : FieldType} {fin : Bool} {f : Nat → Value} {v : Value} (hd : decode (dC M) pc = .ok (.getfield ix, 3)) (hl : mFL (dOwn M) ix ci k ty fin) (hc : hp h = .inr (ci, f)) (hv : f k = v) (kk : mW K M cs sl n hp (pc + 3) lv (v :: st)) : mW K M cs sl n hp pc lv (.ref h :: st) := fun hk H locs ls hR hlv => by
  obtain ⟨C, T, N, tys, h1, h2, h3, h4, -⟩ := hl
  have hh : h < n := mlt_o hR hc h1
  refine va_get hk.1 hk.2.1 hk.2.2.2.2.1 h3 hk.2.2.2.1 hk.2.2.2.2.2.1 hR.1 h (fs := (List.range (mN ci)).map fun k => mv K.2.2.1.2.2.1 (f k)) (by rw [mws_at hh, hc]; rfl) h1 k h2 (hk.2.2.2.2.1 _ h4) (fun _ q => q) (v := mv K.2.2.1.2.2.1 v) ?_ hd (kk hk H locs ls hR hlv)
  rw [List.getElem?_map, List.getElem?_range (by rw [mN_of h1]; exact h2)]
  simp [hv]
theorem mRel.up {H1 : Heap} {locs1 : List Loc} {H : Heap} {locs : List Loc} (hR : mRel K cs n hp H locs) {h : Nat} {c : mE} (hh : h < n) (hP : va_P K.2.2.1.1 vwCl ((mws K.2.2.1.2.1 K.2.2.1.2.2.1 n hp).set h (K.2.2.1.2.2.1 h, mcell K.2.2.1.2.1 K.2.2.1.2.2.1 c)) H1) (hS : va_S (mAc K.2.2.1.2.2.2) K.1.2.2.2.2.1.heap H1 locs1) : mRel K cs n (va_up hp h c) H1 locs1 := by
  rw [mws_set] at hP
  exact ⟨hP, hR.2.1, hS, fun q hq => by rw [va_up_ne _ _ (by omega)]; exact hR.2.2.2.1 q hq, hR.2.2.2.2⟩
theorem m_putfield {ix ci k h : Nat} {ty : FieldType} {f : Nat → Value} {v : Value} (hd : decode (dC M) pc = .ok (.putfield ix, 3)) (hl : mFL (dOwn M) ix ci k ty false) (hc : hp h = .inr (ci, f)) (hn : ∀ ad, narrow ty (mv ad v) = mv ad v) (hf : ∀ ad, fits ty (mv ad v) = true) (kk : mW K M cs sl n (va_up hp h (.inr (ci, va_up f k v))) (pc + 3) lv st) : mW K M cs sl n hp pc lv (v :: .ref h :: st) := fun hk H locs ls hR hlv => by
  obtain ⟨C, T, N, tys, h1, h2, h3, h4, h5, h6, h7, h8, -⟩ := hl
  have hh : h < n := mlt_o hR hc h1
  refine va_put hk.1 hk.2.1 hk.2.2.2.2.1 h3 tys h5 h6 hk.2.2.2.1 hk.2.2.2.2.2.1 hR.1 (m_apart hk.2.2.2.2.2.2.2.1 hR.2.2.2.2) hR.2.2.1 h (fs := (List.range (mN ci)).map fun k => mv K.2.2.1.2.2.1 (f k)) (by rw [mws_at hh, hc]; rfl) h1 k h2 (hk.2.2.2.2.1 _ h4) (fun _ q => q) h8 (ty := ty) (by rw [h5 k h2, h7]) (hn _) (hf _) (by rw [List.length_map, List.length_range, mN_of h1]; exact h2) hd (fun H1 locs1 hP1 hD1 hS1 => ?_)
  refine kk hk H1 locs1 ls (hR.up hh ?_ hS1) hlv
  have e : mcell K.2.2.1.2.1 K.2.2.1.2.2.1 (.inr (ci, va_up f k v)) = .inr (ci, ((List.range (mN ci)).map fun k => mv K.2.2.1.2.2.1 (f k)).set k (mv K.2.2.1.2.2.1 v)) := by
    rw [range_set, ← mv_up]
    rfl
  rw [e]
  exact hP1
theorem m_putfieldF {ix ci k h : Nat} {ty : FieldType} {f : Nat → Value} {v : Value} (hd : decode (dC M) pc = .ok (.putfield ix, 3)) (hl : mFL (dOwn M) ix ci k ty true) (hc : hp h = .inr (ci, f)) (hin : K.2.1.2.2.1.name = "<init>") (hn : ∀ ad, narrow ty (mv ad v) = mv ad v) (hf : ∀ ad, fits ty (mv ad v) = true) (kk : mW K M cs sl n (va_up hp h (.inr (ci, va_up f k v))) (pc + 3) lv st) : mW K M cs sl n hp pc lv (v :: .ref h :: st) := fun hk H locs ls hR hlv => by
  obtain ⟨C, T, N, tys, h1, h2, h3, h4, h5, h6, h7, h8, h9⟩ := hl
  have hh : h < n := mlt_o hR hc h1
  refine va_putF hk.1 hk.2.1 hk.2.2.2.2.1 h3 tys h5 h6 hk.2.2.2.1 hk.2.2.2.2.2.1 hR.1 (m_apart hk.2.2.2.2.2.2.2.1 hR.2.2.2.2) hR.2.2.1 h (fs := (List.range (mN ci)).map fun k => mv K.2.2.1.2.2.1 (f k)) (by rw [mws_at hh, hc]; rfl) h1 k h2 (hk.2.2.2.2.1 _ h4) (fun _ q => q) h8 hin (h9 rfl) (ty := ty) (by rw [h5 k h2, h7]) (hn _) (hf _) (by rw [List.length_map, List.length_range, mN_of h1]; exact h2) hd (fun H1 locs1 hP1 hD1 hS1 => ?_)
  refine kk hk H1 locs1 ls (hR.up hh ?_ hS1) hlv
  have e : mcell K.2.2.1.2.1 K.2.2.1.2.2.1 (.inr (ci, va_up f k v)) = .inr (ci, ((List.range (mN ci)).map fun k => mv K.2.2.1.2.2.1 (f k)).set k (mv K.2.2.1.2.2.1 v)) := by
    rw [range_set, ← mv_up]
    rfl
  rw [e]
  exact hP1
theorem m_iaload {h len k : Nat} {f : Nat → Int32} {i : Int32} (hd : decode (dC M) pc = .ok (.iaload, 1)) (hc : hp h = eI len f) (hi : mIx i k len) (kk : mW K M cs sl n hp (pc + 1) lv (.int (f k) :: st)) : mW K M cs sl n hp pc lv (.int i :: .ref h :: st) := fun hk H locs ls hR hlv => by
  have hh : h < n := mlt_a hR hc
  refine va_iald hk.1 hk.2.1 hk.2.2.2.2.2.1 hR.1 h 0 (n := len) (f := f) (by rw [mws_at hh, hc]; rfl) rfl hi.vp hd ?_
  rw [hi.cl]
  exact kk hk H locs ls hR hlv
theorem m_baload {h len k : Nat} {f : Nat → Int32} {i : Int32} (hd : decode (dC M) pc = .ok (.baload, 1)) (hc : hp h = eB len f) (hi : mIx i k len) (kk : mW K M cs sl n hp (pc + 1) lv (.int (f k) :: st)) : mW K M cs sl n hp pc lv (.int i :: .ref h :: st) := fun hk H locs ls hR hlv => by
  have hh : h < n := mlt_a hR hc
  refine va_bald hk.1 hk.2.1 hk.2.2.2.2.2.1 hR.1 h 2 (n := len) (f := f) (by rw [mws_at hh, hc]; rfl) rfl hi.vp hd ?_
  rw [hi.cl]
  exact kk hk H locs ls hR hlv
theorem m_laload {h len k : Nat} {f : Nat → Int64} {i : Int32} (hd : decode (dC M) pc = .ok (.laload, 1)) (hc : hp h = eL len f) (hi : mIx i k len) (kk : mW K M cs sl n hp (pc + 1) lv (.long (f k) :: st)) : mW K M cs sl n hp pc lv (.int i :: .ref h :: st) := fun hk H locs ls hR hlv => by
  have hh : h < n := mlt_a hR hc
  refine va_lald hk.1 hk.2.1 hk.2.2.2.2.2.1 hR.1 h 1 (n := len) (f := f) (by rw [mws_at hh, hc]; rfl) rfl hi.vp hd ?_
  rw [hi.cl]
  exact kk hk H locs ls hR hlv
theorem m_iastore {h len k : Nat} {f : Nat → Int32} {i x : Int32} (hd : decode (dC M) pc = .ok (.iastore, 1)) (hc : hp h = eI len f) (hi : mIx i k len) (kk : mW K M cs sl n (va_up hp h (eI len (va_up f k x))) (pc + 1) lv st) : mW K M cs sl n hp pc lv (.int x :: .int i :: .ref h :: st) := fun hk H locs ls hR hlv => by
  have hh : h < n := mlt_a hR hc
  refine va_iast hk.1 hk.2.1 hk.2.2.2.2.2.1 hR.1 (m_apart hk.2.2.2.2.2.2.2.1 hR.2.2.2.2) hR.2.2.1 h 0 (n := len) (f := f) (by rw [mws_at hh, hc]; rfl) rfl hi.vp hd (fun H1 locs1 hP1 hD1 hS1 => ?_)
  rw [hi.cl] at hP1
  exact kk hk H1 locs1 ls (hR.up hh hP1 hS1) hlv
theorem m_bastore {h len k : Nat} {f : Nat → Int32} {i x : Int32} (hd : decode (dC M) pc = .ok (.bastore, 1)) (hc : hp h = eB len f) (hi : mIx i k len) (kk : mW K M cs sl n (va_up hp h (eB len (va_up f k (vp_nar .byte x)))) (pc + 1) lv st) : mW K M cs sl n hp pc lv (.int x :: .int i :: .ref h :: st) := fun hk H locs ls hR hlv => by
  have hh : h < n := mlt_a hR hc
  refine va_bast hk.1 hk.2.1 hk.2.2.2.2.2.1 hR.1 (m_apart hk.2.2.2.2.2.2.2.1 hR.2.2.2.2) hR.2.2.1 h 2 (n := len) (f := f) (by rw [mws_at hh, hc]; rfl) rfl hi.vp hd (fun H1 locs1 hP1 hD1 hS1 => ?_)
  rw [hi.cl] at hP1
  exact kk hk H1 locs1 ls (hR.up hh hP1 hS1) hlv
theorem m_lastore {h len k : Nat} {f : Nat → Int64} {i : Int32} {x : Int64} (hd : decode (dC M) pc = .ok (.lastore, 1)) (hc : hp h = eL len f) (hi : mIx i k len) (kk : mW K M cs sl n (va_up hp h (eL len (va_up f k x))) (pc + 1) lv st) : mW K M cs sl n hp pc lv (.long x :: .int i :: .ref h :: st) := fun hk H locs ls hR hlv => by
  have hh : h < n := mlt_a hR hc
  refine va_last hk.1 hk.2.1 hk.2.2.2.2.2.1 hR.1 (m_apart hk.2.2.2.2.2.2.2.1 hR.2.2.2.2) hR.2.2.1 h 1 (n := len) (f := f) (by rw [mws_at hh, hc]; rfl) rfl hi.vp hd (fun H1 locs1 hP1 hD1 hS1 => ?_)
  rw [hi.cl] at hP1
  exact kk hk H1 locs1 ls (hR.up hh hP1 hS1) hlv
theorem mv_rf {ad : Nat → Nat} (r : Option Nat) : va_rf (r.map ad) = mv ad (va_rf r) := by cases r <;> rfl
/-- a place of an array of objects -/
theorem m_aaload {h len k : Nat} {f : Nat → Option Nat} {i : Int32} {v : Value} (hd : decode (dC M) pc = .ok (.aaload, 1)) (hc : hp h = eR tyS len f) (hi : mIx i k len) (hv : va_rf (f k) = v) (kk : mW K M cs sl n hp (pc + 1) lv (v :: st)) : mW K M cs sl n hp pc lv (.int i :: .ref h :: st) := fun hk H locs ls hR hlv => by
  have hh : h < n := mlt_a hR hc
  refine va_aldq hk.1 hk.2.1 hk.2.2.2.2.2.1 hR.1 h 4 (n := len) (f := fun i => (f i).map K.2.2.1.2.2.1) (C := "LoopJudge$Setting") (by rw [mws_at hh, hc]; rfl) rfl hi.vp hd ?_
  rw [hi.cl, mv_rf, hv]
  exact kk hk H locs ls hR hlv
/-- .. of an array of rows of longs -/
theorem m_aaloadJ {h len k : Nat} {f : Nat → Option Nat} {i : Int32} {v : Value} (hd : decode (dC M) pc = .ok (.aaload, 1)) (hc : hp h = eR tyJJ len f) (hi : mIx i k len) (hv : va_rf (f k) = v) (kk : mW K M cs sl n hp (pc + 1) lv (v :: st)) : mW K M cs sl n hp pc lv (.int i :: .ref h :: st) := fun hk H locs ls hR hlv => by
  have hh : h < n := mlt_a hR hc
  have hcell : H[K.2.2.1.2.2.1 h]? = some (vp_cell (K.2.2.1.2.1 tyJJ) (len, .inr (.inr (.inr (.inr (fun i => (f i).map K.2.2.1.2.2.1)))))) := hR.1 h (K.2.2.1.2.2.1 h, .inl (K.2.2.1.2.1 tyJJ, len, .inr (.inr (.inr (.inr (fun i => (f i).map K.2.2.1.2.2.1)))))) (by rw [mws_at hh, hc]; rfl)
  rw [vp_cell_q] at hcell
  have harr := (hk.2.2.2.2.2.1.2 3 (K.2.2.1.2.1 tyJJ, tyJJ) rfl).1 len (fun j => va_rf ((f j).map K.2.2.1.2.2.1))
  intro T hT X
  obtain ⟨t, a1, b1⟩ := kk hk H locs ls hR hlv T hT X
  refine ⟨t, X.aaload hk.1 (by rw [hT]; exact hcell) harr rfl (fun q => by cases q) (by show ¬ (i < 0 ∨ (arrV _ _ _).slots.size ≤ _); rw [arrV_size]; exact hi.vp) (v := mv K.2.2.1.2.2.1 v) (by rw [hi.cl, arrV_read _ _ hi.2, mv_rf, hv]) rfl rfl (by rw [hk.2.1]; exact hd) t a1, b1⟩
theorem m_aastore {h len k w ci : Nat} {f : Nat → Option Nat} {g : Nat → Value} {i : Int32} (hd : decode (dC M) pc = .ok (.aastore, 1)) (hc : hp h = eR tyS len f) (hi : mIx i k len) (hw : hp w = .inr (3, g)) (kk : mW K M cs sl n (va_up hp h (eR tyS len (va_up f k (some w)))) (pc + 1) lv st) : mW K M cs sl n hp pc lv (.ref w :: .int i :: .ref h :: st) := fun hk H locs ls hR hlv => by
  have hh : h < n := mlt_a hR hc
  have hhw : w < n := mlt_o hR hw (q := (RX3, TX3, 3)) rfl
  refine va_astq hk.1 hk.2.1 hk.2.2.2.2.2.1 hR.1 (m_apart hk.2.2.2.2.2.2.2.1 hR.2.2.2.2) hR.2.2.1 h 4 w 3 (n := len) (f := fun i => (f i).map K.2.2.1.2.2.1) (r := (RX3, TX3, 3)) (vs := (List.range (mN 3)).map fun k => mv K.2.2.1.2.2.1 (g k)) (by rw [mws_at hh, hc]; rfl) rfl (by rw [mws_at hhw, hw]; rfl) rfl hi.vp hd (fun H1 locs1 hP1 hD1 hS1 => ?_)
  rw [hi.cl] at hP1
  refine kk hk H1 locs1 ls (hR.up hh ?_ hS1) hlv
  have e : mcell K.2.2.1.2.1 K.2.2.1.2.2.1 (eR tyS len (va_up f k (some w))) = .inl (K.2.2.1.2.1 tyS, len, .inr (.inr (.inr (.inr (va_up (fun i => (f i).map K.2.2.1.2.2.1) k (some (K.2.2.1.2.2.1 w))))))) := by
    show Sum.inl (K.2.2.1.2.1 tyS, len, Sum.inr (Sum.inr (Sum.inr (Sum.inr (fun i => (va_up f k (some w) i).map K.2.2.1.2.2.1))))) = _
    congr 7
    funext j
    by_cases e : j = k
    · subst e
      rw [va_up_self, va_up_self]
      rfl
    · rw [va_up_ne _ _ e, va_up_ne _ _ e]
  rw [e]
  exact hP1
theorem m_arraylength {h : Nat} {ty : FieldType} {a : vp_A} {t0 : Nat} {v : Int32} (hd : decode (dC M) pc = .ok (.arraylength, 1)) (hc : hp h = .inl (ty, a)) (ht : ∀ dA, (mty dA)[t0]? = some (dA ty, ty)) (hv : Int32.ofNat a.1 = v) (kk : mW K M cs sl n hp (pc + 1) lv (.int v :: st)) : mW K M cs sl n hp pc lv (.ref h :: st) := fun hk H locs ls hR hlv => by
  have hh : h < n := mlt_a hR hc
  refine va_alen hk.1 hk.2.1 hk.2.2.2.2.2.1 hR.1 h t0 (x := mA K.2.2.1.2.2.1 a) (by rw [mws_at hh, hc]; rfl) (ht _) (v := v) ?_ hd (kk hk H locs ls hR hlv)
  rw [← hv]
  congr 1
  unfold mA
  split <;> rfl
theorem m_getstatic {ix : Nat} (hd : decode (dC M) pc = .ok (.getstatic ix, 3)) (hl : Cond.fieldLink (dOwn M) ix "LoopJudge" "CORNER_SIDES" "[I" ∈ TB) (kk : mW K M cs sl n hp (pc + 3) lv (.ref (mSC + 1) :: st)) : mW K M cs sl n hp pc lv st := fun hk H locs ls hR hlv =>
  va_gets hk.1 hk.2.1 hk.2.2.2.2.2.2.2.2.1.2.2.2.1 hR.2.2.1 hk.2.2.2.1 (hk.2.2.2.2.1 _ hl) (fun _ q => q) hd (kk hk H locs ls hR hlv)
theorem m_staload {i : Int32} {k : Nat} (hd : decode (dC M) pc = .ok (.iaload, 1)) (hi : mIx i k 20) (kk : mW K M cs sl n hp (pc + 1) lv (.int (mCS.getD k 0) :: st)) : mW K M cs sl n hp pc lv (.int i :: .ref (mSC + 1) :: st) := fun hk H locs ls hR hlv =>
  va_ti hk.1 hk.2.1 hk.2.2.2.2.2.2.2.2.1.2.2.2.2 hR.2.2.1 hi.vp (v := .int (mCS.getD k 0)) (by rw [hi.cl]) hd (kk hk H locs ls hR hlv)
end MH
end
section
/-! ===== allocation, calls, returns ===== -/
theorem mAOA.moved {u U : State} (hvm : u.vm.Alike U.vm) (h : mAOA u) : mAOA U := by
  obtain ⟨comp, c, k, h1, h2, h3, h4, h5⟩ := arrayOverA_spec h
  obtain ⟨k', hk', he⟩ := hvm.2.2 _ _ h3
  have hbb : u.vm.bare = U.vm.bare := by first | exact hvm.bare_eq | exact hvm.bare_eq.symm
  have hi : (U.vm.classes.findIdx? fun (x : Class) => match x.kind with | .array component _ => component == comp | _ => false) = some c := by
    have e1 := va_idx_bare u.vm comp
    rw [hbb] at e1
    exact (va_idx_bare U.vm comp).symm.trans (e1.trans h2)
  have hkind : k'.kind = .array comp (.array .long) := by rw [he]; exact h4
  have f1 : U.vm.findClass (FieldType.array .long).toString = some comp := by rw [hvm.findClass]; exact h1
  have f2 : U.vm.findClass ("[" ++ (FieldType.array .long).toString) = some c := by rw [hvm.findClass]; exact h5
  unfold mAOA Cond.before Cond.holds
  simp only [Cond.value]
  rw [f1, Option.bind_some]
  refine (congrArg (fun o : Option Nat => (o.bind (fun c => (U.vm.classes[c]?).map fun (k : Class) => match k.kind with | .array _ ty => decide (ty = FieldType.array .long) && decide (U.vm.findClass ("[" ++ (FieldType.array .long).toString) = some c) | _ => false) == some true)) hi).trans ?_
  simp [hk', hkind, f2]
theorem mEnv.moved {ad : Nat → Nat} {base : Nat} {s U : State} {H : Heap} (hW : s.WarmedH U.vm) (h : mEnv ad base s H) : mEnv ad base U H :=
  ⟨⟨h.1.1.warmM hW, h.1.2.1.warmM hW, h.1.2.2.1.warmM hW, h.1.2.2.2.warmM hW⟩, h.2.1.moved hW.alike, h.2.2.1.moved hW.alike, h.2.2.2.1.moved hW.alike, h.2.2.2.2.moved hW.alike⟩
theorem mEnv.kept {ad : Nat → Nat} {base : Nat} {s : State} {H H1 : Heap} (h : mEnv ad base s H) (hq : ∀ a : Nat, a < H.size → ¬ mAc base a → H1[a]? = H[a]?) : mEnv ad base s H1 :=
  ⟨h.1, h.2.1, h.2.2.1, h.2.2.2.1.kept hq, h.2.2.2.2.kept hq⟩
theorem mEnv.call {ad : Nat → Nat} {base : Nat} {U : State} {H : Heap} {g : JFrame} {mk : MethodId} {a : Array Value} (h : mEnv ad base U H) : mEnv ad base (U.calling g mk a) H :=
  ⟨⟨h.1.1.same rfl rfl, h.1.2.1.same rfl rfl, h.1.2.2.1.same rfl rfl, h.1.2.2.2.same rfl rfl⟩, h.2.1.moved (u := U) (U := U.calling g mk a) (Vm.Alike.refl U.vm), h.2.2.1.moved (u := U) (U := U.calling g mk a) (Vm.Alike.refl U.vm), h.2.2.2.1.moved (u := U) (U := U.calling g mk a) (Vm.Alike.refl U.vm), h.2.2.2.2.moved (u := U) (U := U.calling g mk a) (Vm.Alike.refl U.vm)⟩
/-- the start of a method: its world is the whole system's -/
def mPre (D : va_G) (dA : FieldType → ClassId) (ad : Nat → Nat) (base n : Nat) (hp : mHp) (U : State) : Prop :=
  va_P D vwCl (mws dA ad n hp) U.heap ∧ U.heap.size = base + n ∧ va_K D vwCl (mty dA) U ∧ (∀ h, n ≤ h → hp h = mJ) ∧ n ≤ mSC ∧ (∀ h, h < mSC → ad h = base + h) ∧ mEnv ad base U U.heap
abbrev mQ : Type := Option Value → mHp → Prop
def mQc (Q : mQ) (D : va_G) (dA : FieldType → ClassId) (ad : Nat → Nat) (base n mc : Nat) : Array Value → State → Outcome → State → Prop := fun _ st o t =>
  ∃ (v : Option Value) (hp' : mHp), o = .returned (v.map (mv ad)) ∧ Q v hp' ∧ va_P D vwCl (mws dA ad (n + mc) hp') t.heap ∧ (∀ h, n + mc ≤ h → hp' h = mJ) ∧ n + mc ≤ mSC ∧ va_F (mAc base) st t
/-- the words that every method has -/
abbrev mWs (M : MD) : List Cond := Cond.code (dY M) (dC M) (dL M) (dR M) :: TB
/-- A CONTRACT: called with as in a heap hp of n cells the method returns with Q -/
def mC (M : MD) (as : List Value) (n : Nat) (hp : mHp) (Q : mQ) : Prop :=
  ∀ (l : Launch) (D : va_G) (dA : FieldType → ClassId) (ad : Nat → Nat) (base : Nat), Met l (dY M) (mWs M) (mRm (dV M) (dMc M) (dMs M)) (va_Pc (as.map (mv ad)) (mPre D dA ad base n hp)) (mQc Q D dA ad base n (dMc M)) (dMc M) (dMs M) (mAc base)
theorem mPre.call {D : va_G} {dA : FieldType → ClassId} {ad : Nat → Nat} {base n : Nat} {hp : mHp} {U : State} {g : JFrame} {mk : MethodId} {a : Array Value} (h : mPre D dA ad base n hp U) : mPre D dA ad base n hp (U.calling g mk a) :=
  ⟨h.1, h.2.1, va_K.moved (u := U) (U := U.calling g mk a) (Vm.Alike.refl U.vm) h.2.2.1, h.2.2.2.1, h.2.2.2.2.1, h.2.2.2.2.2.1, h.2.2.2.2.2.2.call⟩
theorem mPre.blind {D : va_G} {dA : FieldType → ClassId} {ad : Nat → Nat} {base n : Nat} {hp : mHp} {as : List Value} : FrameBlind (va_Pc as (mPre D dA ad base n hp)) := fun _ _ _ _ q => ⟨q.1, q.2.call⟩
/-- the end of a method, as its proof knows it -/
def mFin (K : mK) (M : MD) (n : Nat) (Q : mQ) : Prop :=
  K.2.2.2 = MQ K.2.1.2.1 (mQc Q K.2.2.1.1 K.2.2.1.2.1 K.2.2.1.2.2.1 K.2.2.1.2.2.2 n (dMc M)) K.2.1.1 K.1.2.2.2.2.1 (dMc M) (dMs M) (mAc K.2.2.1.2.2.2) ∧ K.2.1.2.2.1.sig.returnType = dR M ∧ K.2.1.2.2.1.locks = false ∧ K.2.1.2.2.1.name = (dY M).name ∧ K.1.2.2.2.2.1.heap.size = K.2.2.1.2.2.2 + n
/-- the locals at a method's entry -/
def mexp : List Value → List Value
  | [] => []
  | .long x :: r => .long x :: .retAddr 0 :: mexp r
  | .double x :: r => .double x :: .retAddr 0 :: mexp r
  | v :: r => v :: mexp r
theorem mexp_args {ad : Nat → Nat} : ∀ (as : List Value) (b i : Nat) (v : Value), (mexp as)[i]? = some v → (∀ k, v ≠ .retAddr k) → (b + i, mv ad v) ∈ lv_args b (as.map (mv ad))
  | [], b, i, v, h, _ => by simp [mexp] at h
  | a :: as, b, i, v, h, hv => by
    have one : (∀ x, a ≠ .long x) → (∀ x, a ≠ .double x) → (b + i, mv ad v) ∈ lv_args b ((a :: as).map (mv ad)) := fun h1 h2 => by
      have e : mexp (a :: as) = a :: mexp as := by
        cases a <;> first | rfl | exact absurd rfl (h1 _) | exact absurd rfl (h2 _)
      have ec : ¬ (mv ad a).category = 2 := by
        rw [mv_cat]
        cases a <;> first | exact absurd rfl (h1 _) | exact absurd rfl (h2 _) | (intro q; cases q)
      rw [e] at h
      show _ ∈ (b, mv ad a) :: lv_args (if (mv ad a).category = 2 then b + 2 else b + 1) (as.map (mv ad))
      rw [if_neg ec]
      cases i with
      | zero =>
        rw [List.getElem?_cons_zero] at h
        cases h
        exact List.mem_cons_self
      | succ i =>
        rw [List.getElem?_cons_succ] at h
        have := mexp_args (ad := ad) as (b + 1) i v h hv
        rw [show b + 1 + i = b + (i + 1) by omega] at this
        exact List.mem_cons_of_mem _ this
    have two : mexp (a :: as) = a :: .retAddr 0 :: mexp as → (mv ad a).category = 2 → (b + i, mv ad v) ∈ lv_args b ((a :: as).map (mv ad)) := fun e ec => by
      rw [e] at h
      show _ ∈ (b, mv ad a) :: lv_args (if (mv ad a).category = 2 then b + 2 else b + 1) (as.map (mv ad))
      rw [if_pos ec]
      cases i with
      | zero =>
        rw [List.getElem?_cons_zero] at h
        cases h
        exact List.mem_cons_self
      | succ i =>
        rw [List.getElem?_cons_succ] at h
        cases i with
        | zero =>
          rw [List.getElem?_cons_zero] at h
          exact absurd (Option.some.inj h).symm (hv 0)
        | succ i =>
          rw [List.getElem?_cons_succ] at h
          have := mexp_args (ad := ad) as (b + 2) i v h hv
          rw [show b + 2 + i = b + (i + 1 + 1) by omega] at this
          exact List.mem_cons_of_mem _ this
    cases a with
    | long x => exact two rfl rfl
    | double x => exact two rfl rfl
    | int x => exact one (fun _ q => by cases q) (fun _ q => by cases q)
    | float x => exact one (fun _ q => by cases q) (fun _ q => by cases q)
    | null => exact one (fun _ q => by cases q) (fun _ q => by cases q)
    | ref x => exact one (fun _ q => by cases q) (fun _ q => by cases q)
    | retAddr x => exact one (fun _ q => by cases q) (fun _ q => by cases q)
def ment (nL : Nat) (as : List Value) : List Value := mexp as ++ List.replicate (nL - (mexp as).length) (.retAddr 0)
theorem ment_has {ad : Nat → Nat} {nL : Nat} {as : List Value} {ls : Array Slot} (h : lv_has ls nL (lv_args 0 (as.map (mv ad)))) : lv_has ls nL (mlv ad (ment nL as)) := by
  refine ⟨h.1, h.2.1, fun q hq => h.2.2 q ?_⟩
  obtain ⟨j, w⟩ := q
  obtain ⟨u, h1, h2, rfl⟩ := mlv_of hq
  unfold ment at h1
  by_cases hj : j < (mexp as).length
  · rw [List.getElem?_append_left hj] at h1
    have := mexp_args (ad := ad) as 0 j u h1 h2
    rwa [Nat.zero_add] at this
  · rw [List.getElem?_append_right (by omega)] at h1
    have := List.eq_of_mem_replicate (List.mem_of_getElem? h1)
    exact absurd this (h2 0)
theorem mexp_len {ad : Nat → Nat} : ∀ as : List Value, (lg_sl (as.map (mv ad))).length = (mexp as).length
  | [] => rfl
  | a :: as => by
    have ih := mexp_len (ad := ad) as
    unfold lg_sl at ih ⊢
    rw [List.map_cons, List.flatMap_cons, List.length_append, ih]
    cases a <;> (simp [mv, mexp, Value.category]; try omega)
/-- A METHOD's PROOF -/
theorem m_enter {M : MD} {as : List Value} {n : Nat} {hp : mHp} {Q : mQ} (hy : plainName (dY M).cls = true) (hown : dOwn M = (dY M).cls) (hlen : (mexp as).length ≤ dL M)
    (body : ∀ K : mK, mFin K M n Q → mW K M 0 0 n hp 0 (ment (dL M) as) []) : mC M as n hp Q := by
  intro l D dA ad base
  refine Met.ofW (cc := dC M) (maxL := dL M) (ret := dR M) hy rfl ?_
  intro p e s m args below meth c s₁ B hml hv
  obtain ⟨rfl, hP, hsz, hK, hj, hn, had, henv⟩ := hv
  have hts := atoms_spec (ws := mWs M) B.pre
  have hl := lv_entry (as.map (mv ad)) (n := dL M) (by rw [mexp_len]; exact hlen)
  rw [lg_entry_eq]
  generalize (lg_sl (as.map (mv ad)) ++ List.replicate (dL M - (lg_sl (as.map (mv ad))).length) Slot.unset).toArray = ls at hl ⊢
  have b := body ((p, l, e, (headSpec (mWs M) (mRm (dV M) (dMc M) (dMs M))).room, s, m), ((as.map (mv ad)).toArray, below, meth, c), (D, dA, ad, base), MQ below (mQc Q D dA ad base n (dMc M)) (as.map (mv ad)).toArray s (dMc M) (dMs M) (mAc base))
    ⟨rfl, B.returns, B.notSynchronized, (name_of_methodNamed B.named B.method).1, hsz⟩
  exact b ⟨B.exec, B.bytes, hml, by rw [hown]; exact findClass_of_methodNamed B.named, fun w hw => hts w (List.mem_cons_of_mem _ hw), hK, by show base ≤ s.heap.size; omega, had, henv, rfl⟩ s.heap [] ls
    ⟨hP, by show base + n = s.heap.size + 0; omega, va_S.rf, hj, hn⟩ (ment_has hl)
section MC
variable {K : mK} {M : MD} {cs sl n : Nat} {hp : mHp} {pc : Nat} {lv st : List Value}
theorem mRel.size {H : Heap} {locs : List Loc} (hk : mOk K M) (hR : mRel K cs n hp H locs) {T : State} (hT : T.heap = H) (X : Stand K.1.1 K.1.2.1 K.1.2.2.1 K.1.2.2.2.1 K.1.2.2.2.2.1 K.1.2.2.2.2.2 K.2.1.1 K.2.1.2.1 K.2.1.2.2.1 K.2.1.2.2.2 T locs cs sl) : H.size = K.2.2.1.2.2.2 + n := by
  have h1 := X.heapSize
  rw [hT] at h1
  have h2 := hR.2.1
  cases n with
  | zero =>
    have h3 := hR.2.2.1.1
    have h4 := hk.2.2.2.2.2.2.1
    omega
  | succ n =>
    have h3 := (hR.1 n _ (mws_at (Nat.lt_succ_self n))).lt
    have h4 := hk.2.2.2.2.2.2.2.1 n (by have := hR.2.2.2.2; omega)
    have h3 : K.2.2.1.2.2.1 n < H.size := h3
    rw [h4] at h3
    omega
/-- behind a new cell: where it lies -/
theorem mRel.push {H H1 : Heap} {locs : List Loc} {c : mE} {q k : Nat} (hk : mOk K M) (hR : mRel K cs n hp H locs) (hn : n < mSC) (hP : va_P K.2.2.1.1 vwCl (mws K.2.2.1.2.1 K.2.2.1.2.2.1 n hp ++ [(q, mcell K.2.2.1.2.1 K.2.2.1.2.2.1 c)]) H1) (hD : va_D (mAc K.2.2.1.2.2.2) (mws K.2.2.1.2.1 K.2.2.1.2.2.1 n hp ++ [(q, mcell K.2.2.1.2.1 K.2.2.1.2.2.1 c)])) (hS : va_S (mAc K.2.2.1.2.2.2) K.1.2.2.2.2.1.heap H1 locs)
    {T : State} (hT : T.heap = H1) (X : Stand K.1.1 K.1.2.1 K.1.2.2.1 K.1.2.2.2.1 K.1.2.2.2.2.1 K.1.2.2.2.2.2 K.2.1.1 K.2.1.2.1 K.2.1.2.2.1 K.2.1.2.2.2 T locs (cs + 1) k) : q = K.2.2.1.2.2.1 n ∧ mRel K (cs + 1) (n + 1) (va_up hp n c) H1 locs := by
  have had := hk.2.2.2.2.2.2.2.1
  have e0 : (mws K.2.2.1.2.1 K.2.2.1.2.2.1 n hp ++ [(q, mcell K.2.2.1.2.1 K.2.2.1.2.2.1 c)])[n]? = some (q, mcell K.2.2.1.2.1 K.2.2.1.2.2.1 c) := by
    rw [List.getElem?_append_right (by rw [mws_len]; exact Nat.le_refl _), mws_len, Nat.sub_self]
    rfl
  have h1 := X.heapSize
  rw [hT] at h1
  have h2 : q < H1.size := (hP n _ e0).lt
  have h3 : K.2.2.1.2.2.2 ≤ q := hD.2 n _ e0
  have h4 := hR.2.1
  have hq : q = K.2.2.1.2.2.1 n := by
    rw [had n hn]
    rcases Nat.lt_or_ge q (K.2.2.1.2.2.2 + n) with z | z
    · have hlt : q - K.2.2.1.2.2.2 < n := by omega
      have e1 : (mws K.2.2.1.2.1 K.2.2.1.2.2.1 n hp ++ [(q, mcell K.2.2.1.2.1 K.2.2.1.2.2.1 c)])[q - K.2.2.1.2.2.2]? = some (K.2.2.1.2.2.1 (q - K.2.2.1.2.2.2), mcell K.2.2.1.2.1 K.2.2.1.2.2.1 (hp (q - K.2.2.1.2.2.2))) := by
        rw [List.getElem?_append_left (by rw [mws_len]; exact hlt), mws_at hlt]
      have := hD.1 _ _ _ _ e0 e1 (by show q = K.2.2.1.2.2.1 _; rw [had _ (by omega)]; omega)
      omega
    · omega
  refine ⟨hq, ?_, by omega, hS, fun z hz => ?_, hn⟩
  · rw [hq, mws_push] at hP
    exact hP
  · rw [va_up_ne _ _ (by omega)]
    exact hR.2.2.2.1 z (by omega)
theorem m_newarray {aty : ArrayType} {ty : FieldType} {z : Int32} {N : Nat} {a0 : vp_A} (hd : decode (dC M) pc = .ok (.newarray aty, 2)) (hty : newarray.typeOf aty = ty) (hw : Cond.arrayClass ty ∈ TB) (hA : ∀ (cA : ClassId) (ad : Nat → Nat), vp_cell cA (mA ad a0) = arrV cA N (fun _ => defaultValue ty)) (ht : ∃ t0 : Nat, ∀ dA : FieldType → ClassId, (mty dA)[t0]? = some (dA ty, ty)) (ho : ∀ C, ty ≠ .object C) (hz : mIx z N 65536) (hb : N * componentBytes ty ≤ 536870912) (hn : n < mSC) (hc : cs + 1 ≤ dMc M) (hs : sl + N ≤ dMs M)
    (kk : mW K M (cs + 1) (sl + N) (n + 1) (va_up hp n (.inl (ty, a0))) (pc + 2) lv (.ref n :: st)) : mW K M cs sl n hp pc lv (.int z :: st) := fun hk H locs ls hR hlv => by
  subst hty
  refine va_newa hk.1 hk.2.1 (hk.2.2.2.2.1 _ hw) rfl hk.2.2.2.2.2.1 hR.1 (m_apart hk.2.2.2.2.2.2.2.1 hR.2.2.2.2) hR.2.2.1 (fun q hq => Nat.le_trans hk.2.2.2.2.2.2.1 hq) (a0 := mA K.2.2.1.2.2.1 a0) (N' := N) (fun cA => hA cA _) hz.nn hz.cl hb (by rw [hk.2.2.2.2.2.2.2.2.2]; exact hc) (by rw [hk.2.2.2.2.2.2.2.2.2]; exact hs) hd (fun q cA H1 hK1 hP1 hD1 hS1 => ?_)
  obtain ⟨t0, ht0⟩ := ht
  have r1 := (hK1.2 5 (cA, newarray.typeOf aty) rfl).2
  have r0 := (hk.2.2.2.2.2.1.2 t0 _ (ht0 K.2.2.1.2.1)).2
  have e1 : cA = K.2.2.1.2.1 (newarray.typeOf aty) := by
    generalize newarray.typeOf aty = ty at r1 r0 ho
    cases ty with
    | object C => exact absurd rfl (ho C)
    | _ => exact Option.some.inj (r1.symm.trans r0)
  subst e1
  intro T hT X
  obtain ⟨rfl, hR1⟩ := mRel.push (c := .inl (newarray.typeOf aty, a0)) hk hR hn hP1 hD1 hS1 hT X
  exact kk hk H1 locs ls hR1 hlv T hT X
theorem m_new {ix ci : Nat} {C : String} {T : u_T} {N : Nat} {ty : Nat → FieldType} {f : Nat → Value} (hd : decode (dC M) pc = .ok (.new ix, 3)) (hcl : vwCl[ci]? = some (C, T, N)) (hin : ∀ w ∈ u_ws C T N, w ∈ TB) (hty : ∀ k, k < N → parseFieldDescriptor (T k).2.2.1 = some (ty k)) (hl : Cond.classLink (dOwn M) ix C ∈ TB) (hi : Cond.instantiable C N ∈ TB) (hini : Cond.initialized C ∈ TB) (hf : ∀ j, j < N → ∀ ad, defaultValue (ty j) = mv ad (f j)) (hn : n < mSC) (hc : cs + 1 ≤ dMc M) (hs : sl + N ≤ dMs M)
    (kk : mW K M (cs + 1) (sl + N) (n + 1) (va_up hp n (.inr (ci, f))) (pc + 3) lv (.ref n :: st)) : mW K M cs sl n hp pc lv st := fun hk H locs ls hR hlv => by
  refine va_new hk.1 hk.2.1 hk.2.2.2.2.1 hin ty hty hk.2.2.2.1 (hk.2.2.2.2.1 _ hl) (hk.2.2.2.2.1 _ hi) (hk.2.2.2.2.1 _ hini) hk.2.2.2.2.2.1 hR.1 (m_apart hk.2.2.2.2.2.2.2.1 hR.2.2.2.2) hR.2.2.1 (fun q hq => Nat.le_trans hk.2.2.2.2.2.2.1 hq) hcl (fs := (List.range (mN ci)).map fun k => mv K.2.2.1.2.2.1 (f k)) (fun j hj => ?_) (by rw [hk.2.2.2.2.2.2.2.2.2]; exact hc) (by rw [hk.2.2.2.2.2.2.2.2.2]; exact hs) hd (fun q H1 hP1 hD1 hS1 => ?_)
  · unfold vp_V
    rw [List.getD_eq_getElem?_getD, List.getElem?_map, List.getElem?_range (by rw [mN_of hcl]; exact hj)]
    exact hf j hj _
  · intro T hT X
    obtain ⟨rfl, hR1⟩ := mRel.push (c := .inr (ci, f)) hk hR hn hP1 hD1 hS1 hT X
    exact kk hk H1 locs ls hR1 hlv T hT X
theorem m_anewarray {ix : Nat} {z : Int32} {N : Nat} (hd : decode (dC M) pc = .ok (.anewarray ix, 3)) (hl : Cond.classLink (dOwn M) ix "LoopJudge$Setting" ∈ TB) (hz : mIx z N 65536) (hn : n < mSC) (hc : cs + 1 ≤ dMc M) (hs : sl + N ≤ dMs M)
    (kk : mW K M (cs + 1) (sl + N) (n + 1) (va_up hp n (eR tyS N (fun _ => none))) (pc + 3) lv (.ref n :: st)) : mW K M cs sl n hp pc lv (.int z :: st) := fun hk H locs ls hR hlv => by
  refine va_newq hk.1 hk.2.1 hk.2.2.2.1 (hk.2.2.2.2.1 _ hl) hk.2.2.2.2.2.2.2.2.1.2.1 hk.2.2.2.2.2.1 hR.1 (m_apart hk.2.2.2.2.2.2.2.1 hR.2.2.2.2) hR.2.2.1 (fun q hq => Nat.le_trans hk.2.2.2.2.2.2.1 hq) hz.nn hz.cl (by have := hz.2; omega) (by rw [hk.2.2.2.2.2.2.2.2.2]; exact hc) (by rw [hk.2.2.2.2.2.2.2.2.2]; exact hs) hd (fun q cA H1 hK1 hP1 hD1 hS1 => ?_)
  obtain ⟨_, _, -, -, -, r1⟩ := (hK1.2 5 (cA, tyS) rfl).2
  obtain ⟨_, _, -, -, -, r0⟩ := (hk.2.2.2.2.2.1.2 4 (K.2.2.1.2.1 tyS, tyS) rfl).2
  have e1 : cA = K.2.2.1.2.1 tyS := Option.some.inj (r1.symm.trans r0)
  subst e1
  intro T hT X
  obtain ⟨rfl, hR1⟩ := mRel.push (c := eR tyS N (fun _ => none)) hk hR hn hP1 hD1 hS1 hT X
  exact kk hk H1 locs ls hR1 hlv T hT X
/-! returns -/
theorem m_ireturn {x : Int32} {n0 : Nat} {Q : mQ} (hF : mFin K M n0 Q) (hd : decode (dC M) pc = .ok (.ireturn, 1)) (hr : dR M = some .int) (hc : cs = dMc M) (hs : sl = dMs M) (hq : Q (some (.int x)) hp) : mW K M cs sl n hp pc lv [.int x] := fun hk H locs ls hR hlv => by
  obtain ⟨h1, h2, h3, h4, h5⟩ := hF
  subst hc hs
  rw [h1]
  have hlocks := h3
  have e : n = n0 + dMc M := by have := hR.2.1; rw [h5] at this; omega
  exact W.iret hk.1 hk.2.1 (h2.trans hr) (fun t ht hW => ⟨some (.int x), hp, rfl, hq, by rw [ht, ← e]; exact hR.1, by rw [← e]; exact hR.2.2.2.1, by rw [← e]; exact hR.2.2.2.2, hR.2.2.1.F ht⟩) hR.2.2.1.2.2 hd
theorem m_zreturn {x : Int32} {ty : FieldType} {n0 : Nat} {Q : mQ} (hF : mFin K M n0 Q) (hd : decode (dC M) pc = .ok (.ireturn, 1)) (hr : dR M = some ty) (hn : narrow ty (.int x) = .int x) (hc : cs = dMc M) (hs : sl = dMs M) (hq : Q (some (.int x)) hp) : mW K M cs sl n hp pc lv [.int x] := fun hk H locs ls hR hlv => by
  obtain ⟨h1, h2, h3, h4, h5⟩ := hF
  subst hc hs
  rw [h1]
  have hlocks := h3
  have e : n = n0 + dMc M := by have := hR.2.1; rw [h5] at this; omega
  exact W.zret hk.1 hk.2.1 (h2.trans hr) hn (fun t ht hW => ⟨some (.int x), hp, rfl, hq, by rw [ht, ← e]; exact hR.1, by rw [← e]; exact hR.2.2.2.1, by rw [← e]; exact hR.2.2.2.2, hR.2.2.1.F ht⟩) hR.2.2.1.2.2 hd
theorem m_lreturn {x : Int64} {n0 : Nat} {Q : mQ} (hF : mFin K M n0 Q) (hd : decode (dC M) pc = .ok (.lreturn, 1)) (hr : dR M = some .long) (hc : cs = dMc M) (hs : sl = dMs M) (hq : Q (some (.long x)) hp) : mW K M cs sl n hp pc lv [.long x] := fun hk H locs ls hR hlv => by
  obtain ⟨h1, h2, h3, h4, h5⟩ := hF
  subst hc hs
  rw [h1]
  have hlocks := h3
  have e : n = n0 + dMc M := by have := hR.2.1; rw [h5] at this; omega
  exact W.lret hk.1 hk.2.1 (h2.trans hr) (fun t ht hW => ⟨some (.long x), hp, rfl, hq, by rw [ht, ← e]; exact hR.1, by rw [← e]; exact hR.2.2.2.1, by rw [← e]; exact hR.2.2.2.2, hR.2.2.1.F ht⟩) hR.2.2.1.2.2 hd
theorem m_areturn {h : Nat} {rt : FieldType} {n0 : Nat} {Q : mQ} (hF : mFin K M n0 Q) (hd : decode (dC M) pc = .ok (.areturn, 1)) (hr : dR M = some rt) (href : (∃ n, rt = FieldType.object n) ∨ ∃ t : FieldType, rt = FieldType.array t) (hc : cs = dMc M) (hs : sl = dMs M) (hq : Q (some (.ref h)) hp) : mW K M cs sl n hp pc lv [.ref h] := fun hk H locs ls hR hlv => by
  obtain ⟨h1, h2, h3, h4, h5⟩ := hF
  subst hc hs
  rw [h1]
  have hlocks := h3
  have e : n = n0 + dMc M := by have := hR.2.1; rw [h5] at this; omega
  exact W.aret hk.1 hk.2.1 (h2.trans hr) href (Or.inr ⟨_, rfl⟩) (fun t ht hW => ⟨some (.ref h), hp, rfl, hq, by rw [ht, ← e]; exact hR.1, by rw [← e]; exact hR.2.2.2.1, by rw [← e]; exact hR.2.2.2.2, hR.2.2.1.F ht⟩) hR.2.2.1.2.2 hd
theorem m_return {n0 : Nat} {Q : mQ} (hF : mFin K M n0 Q) (hd : decode (dC M) pc = .ok (.return_, 1)) (hr : dR M = none) (hc : cs = dMc M) (hs : sl = dMs M) (hq : Q none hp) : mW K M cs sl n hp pc lv [] := fun hk H locs ls hR hlv => by
  obtain ⟨h1, h2, h3, h4, h5⟩ := hF
  subst hc hs
  rw [h1]
  have hlocks := h3
  have e : n = n0 + dMc M := by have := hR.2.1; rw [h5] at this; omega
  exact W.vret hk.1 hk.2.1 (h2.trans hr) (fun t ht hW => ⟨none, hp, rfl, hq, by rw [ht, ← e]; exact hR.1, by rw [← e]; exact hR.2.2.2.1, by rw [← e]; exact hR.2.2.2.2, hR.2.2.1.F ht⟩) hR.2.2.1.2.2 hd
/-! calls -/
/-- a callee: its code is among the words, its class stands -/
def mMd (M' : MD) : Prop := Cond.code (dY M') (dC M') (dL M') (dR M') ∈ TB ∧ Cond.initialized (dY M').cls ∈ TB ∧ ((dY M').cls ≠ "java/lang/invoke/MethodHandle" ∧ (dY M').cls ≠ "java/lang/invoke/VarHandle")
theorem mWs_good {M M' : MD} (h : mMd M') : GoodIn (mWs M) (mWs M') := fun w hw => by
  rcases List.mem_cons.mp hw with rfl | hw
  · exact ⟨List.mem_cons_of_mem _ h.1, tb_good h.1⟩
  · exact ⟨List.mem_cons_of_mem _ hw, tb_good hw⟩
theorem tb_goodIn {M' : MD} (h : mMd M') : GoodIn TB (mWs M') := fun w hw => by
  rcases List.mem_cons.mp hw with rfl | hw
  · exact ⟨h.1, tb_good h.1⟩
  · exact ⟨hw, tb_good hw⟩
def mAr (M' : MD) (k : Nat) : Prop := (parseMethodDescriptor (dY M').desc).map (fun d => d.parameters.length) = some k
theorem m_start {H : Heap} {locs : List Loc} (hk : mOk K M) (hR : mRel K cs n hp H locs) (hz : H.size = K.2.2.1.2.2.2 + n) (U : State) (hU : U.heap = H) (hW : K.1.2.2.2.2.1.WarmedH U.vm) : mPre K.2.2.1.1 K.2.2.1.2.1 K.2.2.1.2.2.1 K.2.2.1.2.2.2 n hp U :=
  ⟨by rw [hU]; exact hR.1, by rw [hU]; exact hz, va_K.moved hW.alike hk.2.2.2.2.2.1, hR.2.2.2.1, hR.2.2.2.2, hk.2.2.2.2.2.2.2.1, by
    rw [hU]
    exact (hk.2.2.2.2.2.2.2.2.1.kept (fun a h1 h2 => hR.2.2.1.2.1 a h1 h2)).moved hW⟩
theorem m_back {Q' : mQ} {mc ms : Nat} {H : Heap} {locs : List Loc} {ls : Array Slot} {st0 rest : List Value} {a : Array Value} (hk : mOk K M) (hR : mRel K cs n hp H locs) (hl : lv_has ls (dL M) (mlv K.2.2.1.2.2.1 lv)) (hrest : rest = st.map (mv K.2.2.1.2.2.1))
    (hr : va_Run K.1.1 K.1.2.1 K.1.2.2.1 K.1.2.2.2.1 K.1.2.2.2.2.1 K.1.2.2.2.2.2 K.2.1.1 K.2.1.2.1 K.2.1.2.2.1 K.2.1.2.2.2 H locs cs sl mc ms (F0 K.1.2.2.2.2.2 pc ls st0) rest (mQc Q' K.2.2.1.1 K.2.2.1.2.1 K.2.2.1.2.2.1 K.2.2.1.2.2.2 n mc a) (mAc K.2.2.1.2.2.2))
    (kk : ∀ v hp', Q' v hp' → mW K M (cs + mc) (sl + ms) (n + mc) hp' (pc + 3) lv (v.toList ++ st)) {T : State} (hT : T.heap = H) (X : Stand K.1.1 K.1.2.1 K.1.2.2.1 K.1.2.2.2.1 K.1.2.2.2.2.1 K.1.2.2.2.2.2 K.2.1.1 K.2.1.2.1 K.2.1.2.2.1 K.2.1.2.2.2 T locs cs sl) :
    ∃ t, Steps K.1.1.tables K.1.2.2.1 K.2.1.2.1 (T.setTop (F0 K.1.2.2.2.2.2 pc ls st0)) t ∧ K.2.2.2 t := by
  obtain ⟨v0, st₀, t, T', L, h0, X', hL, e1, e2, ⟨v, hp', hv, hq, hP, hj, hn, hF⟩, go⟩ := hr T hT X
  cases hv
  have hS : va_S (mAc K.2.2.1.2.2.2) K.1.2.2.2.2.1.heap t.heap (locs ++ L) := by
    refine ⟨Nat.le_trans hR.2.2.1.1 (by have := hF.1; rw [h0] at this; exact this), fun q h1 h2 => ?_, fun q hq' => ?_⟩
    · rw [hF.2 q (by rw [h0]; exact Nat.lt_of_lt_of_le h1 hR.2.2.1.1) h2, h0]
      exact hR.2.2.1.2.1 q h1 h2
    · rcases List.mem_append.mp hq' with z | z
      · exact hR.2.2.1.2.2 q z
      · exact hL q z
  obtain ⟨t2, a1, b1⟩ := kk v hp' hq hk t.heap (locs ++ L) ls ⟨hP, by have := hR.2.1; omega, hS, hj, hn⟩ hl T' e1 X'
  refine ⟨t2, go t2 ?_, b1⟩
  have e : (v.map (mv K.2.2.1.2.2.1)).toList ++ rest = (v.toList ++ st).map (mv K.2.2.1.2.2.1) := by
    rw [hrest, List.map_append]
    cases v <;> rfl
  show Steps _ _ _ (T'.setTop (F0 _ (pc + 3) ls ((v.map (mv K.2.2.1.2.2.1)).toList ++ rest))) t2
  rw [e]
  exact a1
theorem m_words {L : List Value} {ad : Nat → Nat} : ((L.map (mv ad)).map fun v => v.category).sum = (L.map Value.category).sum := by
  rw [List.map_map]
  congr 1
  apply List.map_congr_left
  intro a _
  exact mv_cat ad a
theorem m_invS {ix : Nat} {M' : MD} {as st0 : List Value} {Q' : mQ} (hd : decode (dC M) pc = .ok (.invokestatic ix, 3)) (hl : Cond.methodLink (dOwn M) ix (dY M') ∈ TB ∧ Cond.static (dY M') ∈ TB ∧ mMd M') (har : mAr M' as.length) (hC : mC M' as n hp Q') (hst : st0 = as.reverse ++ st) (hw : (st.map Value.category).sum ≤ 8) (hv : dV M' + 1 ≤ dV M) (hL : dL M' ≤ 20) (hc : cs + dMc M' ≤ dMc M) (hs : sl + dMs M' ≤ dMs M)
    (kk : ∀ v hp', Q' v hp' → mW K M (cs + dMc M') (sl + dMs M') (n + dMc M') hp' (pc + 3) lv (v.toList ++ st)) : mW K M cs sl n hp pc lv st0 := fun hk H locs ls hR hlv => by
  subst hst
  intro T hT X
  have hz := hR.size hk hT X
  have hR' := hk.2.2.2.2.2.2.2.2.2
  refine m_back (st := st) (rest := st.map (mv K.2.2.1.2.2.1)) hk hR hlv rfl (va_runS (As := as.map (mv K.2.2.1.2.2.1)) (n := as.length) (bytes := dC M') (maxL := dL M') (ret := dR M') (own := dOwn M) (index := ix) (Ts := TB) (cc := dC M) (nL := dL M) ⟨hk.1, hk.2.1, hk.2.2.1, hk.2.2.2.1, hk.2.2.2.2.1⟩ (hC _ K.2.2.1.1 K.2.2.1.2.1 K.2.2.1.2.2.1 K.2.2.1.2.2.2) ⟨callB_of as.length hk.2.2.2.2.1 (tb_goodIn hl.2.2) rfl rfl rfl (hk.2.2.2.2.1 _ hl.2.2.2.1) (hk.2.2.2.2.1 _ hl.1) ⟨hl.2.2.2.2.1, hl.2.2.2.2.2, har⟩ ?_, hk.2.2.2.2.1 _ hl.2.1⟩ ⟨mPre.blind, fun U hU hW => ⟨rfl, m_start hk hR hz U hU hW⟩⟩ rfl (List.length_map _) hlv.1 ?_ ?_ hd ?_) kk hT X
  · rw [hR']
    exact ⟨hv, by show 8 + (dL M' + 11) + 40 * dV M' ≤ 40 * dV M; omega⟩
  · show (as.reverse ++ st).map _ = _
    rw [List.map_append, List.map_reverse]
  · show 2 * 0 + _ ≤ 8
    rw [m_words]
    omega
  · rw [hR']
    exact ⟨hc, hs⟩
theorem m_invSN {ix : Nat} {M' : MD} {as st0 : List Value} {Q' : mQ} (hd : decode (dC M) pc = .ok (.invokestatic ix, 3)) (hl : (∀ ad base U H, mEnv ad base U H → va_Nw (.methodLinkNest (dOwn M) ix (dY M') RX7) U) ∧ Cond.static (dY M') ∈ TB ∧ mMd M') (har : mAr M' as.length) (hC : mC M' as n hp Q') (hst : st0 = as.reverse ++ st) (hw : (st.map Value.category).sum ≤ 8) (hv : dV M' + 1 ≤ dV M) (hL : dL M' ≤ 20) (hc : cs + dMc M' ≤ dMc M) (hs : sl + dMs M' ≤ dMs M)
    (kk : ∀ v hp', Q' v hp' → mW K M (cs + dMc M') (sl + dMs M') (n + dMc M') hp' (pc + 3) lv (v.toList ++ st)) : mW K M cs sl n hp pc lv st0 := fun hk H locs ls hR hlv => by
  subst hst
  intro T hT X
  have hz := hR.size hk hT X
  have hR' := hk.2.2.2.2.2.2.2.2.2
  refine m_back (st := st) (rest := st.map (mv K.2.2.1.2.2.1)) hk hR hlv rfl (va_runSN (host := RX7) (As := as.map (mv K.2.2.1.2.2.1)) (n := as.length) (bytes := dC M') (maxL := dL M') (ret := dR M') (own := dOwn M) (index := ix) (Ts := TB) (cc := dC M) (nL := dL M) ⟨hk.1, hk.2.1, hk.2.2.1, hk.2.2.2.1, hk.2.2.2.2.1⟩ (hC _ K.2.2.1.1 K.2.2.1.2.1 K.2.2.1.2.2.1 K.2.2.1.2.2.2) ⟨va_cnB as.length hk.2.2.2.2.1 (tb_goodIn hl.2.2) rfl rfl rfl (hl.1 _ _ _ _ hk.2.2.2.2.2.2.2.2.1) (hk.2.2.2.2.1 _ hl.2.2.2.1) ⟨hl.2.2.2.2.1, hl.2.2.2.2.2, har⟩ ?_, hk.2.2.2.2.1 _ hl.2.1, trivial⟩ ⟨mPre.blind, fun U hU hW => ⟨rfl, m_start hk hR hz U hU hW⟩⟩ rfl (List.length_map _) hlv.1 ?_ ?_ hd ?_) kk hT X
  · rw [hR']
    exact ⟨hv, by show 8 + (dL M' + 11) + 40 * dV M' ≤ 40 * dV M; omega⟩
  · show (as.reverse ++ st).map _ = _
    rw [List.map_append, List.map_reverse]
  · show 2 * 0 + _ ≤ 8
    rw [m_words]
    omega
  · rw [hR']
    exact ⟨hc, hs⟩
theorem m_invV {ix ci h : Nat} {M' : MD} {q : vw_C} {as st0 : List Value} {f : Nat → Value} {Q' : mQ} (hd : decode (dC M) pc = .ok (.invokevirtual ix, 3)) (hl : Cond.methodLink (dOwn M) ix (dY M') ∈ TB ∧ Cond.instanceMethod (dY M') ∈ TB ∧ Cond.selects (dY M').cls (dY M') (dY M') ∈ TB ∧ mMd M') (har : mAr M' as.length) (hci : vwCl[ci]? = some q) (hcn : q.1 = (dY M').cls) (hc0 : hp h = .inr (ci, f)) (hC : mC M' (.ref h :: as) n hp Q') (hst : st0 = as.reverse ++ .ref h :: st) (hw : (st.map Value.category).sum ≤ 8) (hv : dV M' + 1 ≤ dV M) (hL : dL M' ≤ 20) (hc : cs + dMc M' ≤ dMc M) (hs : sl + dMs M' ≤ dMs M)
    (kk : ∀ v hp', Q' v hp' → mW K M (cs + dMc M') (sl + dMs M') (n + dMc M') hp' (pc + 3) lv (v.toList ++ st)) : mW K M cs sl n hp pc lv st0 := fun hk H locs ls hR hlv => by
  subst hst
  intro T hT X
  have hz := hR.size hk hT X
  have hR' := hk.2.2.2.2.2.2.2.2.2
  have hh : h < n := mlt_o hR hc0 hci
  have hrecv := va_recv hk.2.2.2.2.2.1 hR.1 hci (q0 := h) (a := K.2.2.1.2.2.1 h) (fs := (List.range (mN ci)).map fun k => mv K.2.2.1.2.2.1 (f k)) (by rw [mws_at hh, hc0]; rfl)
  rw [hcn] at hrecv
  refine m_back (st := st) (rest := st.map (mv K.2.2.1.2.2.1)) hk hR hlv rfl (va_runV (C := (dY M').cls) (b := K.2.2.1.2.2.1 h) (As := as.map (mv K.2.2.1.2.2.1)) (n := as.length) (bytes := dC M') (maxL := dL M') (ret := dR M') (own := dOwn M) (index := ix) (Ts := TB) (cc := dC M) (nL := dL M) ⟨hk.1, hk.2.1, hk.2.2.1, hk.2.2.2.1, hk.2.2.2.2.1⟩ (hC _ K.2.2.1.1 K.2.2.1.2.1 K.2.2.1.2.2.1 K.2.2.1.2.2.2) ⟨callB_of as.length hk.2.2.2.2.1 (tb_goodIn hl.2.2.2) rfl rfl rfl (hk.2.2.2.2.1 _ hl.2.2.2.2.1) (hk.2.2.2.2.1 _ hl.1) ⟨hl.2.2.2.2.2.1, hl.2.2.2.2.2.2, har⟩ ?_, hk.2.2.2.2.1 _ hl.2.1, hk.2.2.2.2.1 _ hl.2.2.1⟩ ⟨mPre.blind, hrecv, fun U hU hW => ⟨rfl, m_start hk hR hz U hU hW⟩⟩ rfl (List.length_map _) hlv.1 ?_ ?_ hd ?_) kk hT X
  · rw [hR']
    exact ⟨hv, by show 8 + (dL M' + 11) + 40 * dV M' ≤ 40 * dV M; omega⟩
  · show (as.reverse ++ .ref h :: st).map _ = _
    rw [List.map_append, List.map_reverse]
    rfl
  · show 2 * 0 + _ ≤ 8
    rw [m_words]
    omega
  · rw [hR']
    exact ⟨hc, hs⟩
theorem m_invI {ix h : Nat} {M' : MD} {as st0 : List Value} {Q' : mQ} (hd : decode (dC M) pc = .ok (.invokespecial ix, 3)) (hl : Cond.methodLink (dOwn M) ix (dY M') ∈ TB ∧ Cond.instanceMethod (dY M') ∈ TB ∧ (dY M').name = "<init>" ∧ mMd M') (har : mAr M' as.length) (hret : dR M' = none) (hC : mC M' (.ref h :: as) n hp Q') (hst : st0 = as.reverse ++ .ref h :: st) (hw : (st.map Value.category).sum ≤ 8) (hv : dV M' + 1 ≤ dV M) (hL : dL M' ≤ 20) (hc : cs + dMc M' ≤ dMc M) (hs : sl + dMs M' ≤ dMs M)
    (kk : ∀ v hp', Q' v hp' → mW K M (cs + dMc M') (sl + dMs M') (n + dMc M') hp' (pc + 3) lv (v.toList ++ st)) : mW K M cs sl n hp pc lv st0 := fun hk H locs ls hR hlv => by
  subst hst
  intro T hT X
  have hz := hR.size hk hT X
  have hR' := hk.2.2.2.2.2.2.2.2.2
  refine m_back (st := st) (rest := st.map (mv K.2.2.1.2.2.1)) hk hR hlv rfl (va_runI (b := K.2.2.1.2.2.1 h) (As := as.map (mv K.2.2.1.2.2.1)) (n := as.length) (bytes := dC M') (maxL := dL M') (own := dOwn M) (index := ix) (Ts := TB) (cc := dC M) (nL := dL M) ⟨hk.1, hk.2.1, hk.2.2.1, hk.2.2.2.1, hk.2.2.2.2.1⟩ (hC _ K.2.2.1.1 K.2.2.1.2.1 K.2.2.1.2.2.1 K.2.2.1.2.2.2) ⟨callB_of as.length hk.2.2.2.2.1 (tb_goodIn hl.2.2.2) (by rw [← hret]) rfl rfl (hk.2.2.2.2.1 _ hl.2.2.2.2.1) (hk.2.2.2.2.1 _ hl.1) ⟨hl.2.2.2.2.2.1, hl.2.2.2.2.2.2, har⟩ ?_, hl.2.2.1, hk.2.2.2.2.1 _ hl.2.1⟩ ⟨mPre.blind, fun U hU hW => ⟨rfl, m_start hk hR hz U hU hW⟩⟩ rfl (List.length_map _) hlv.1 ?_ ?_ hd ?_) kk hT X
  · rw [hR']
    exact ⟨hv, by show 8 + (dL M' + 11) + 40 * dV M' ≤ 40 * dV M; omega⟩
  · show (as.reverse ++ .ref h :: st).map _ = _
    rw [List.map_append, List.map_reverse]
    rfl
  · show 2 * 0 + _ ≤ 8
    rw [m_words]
    omega
  · rw [hR']
    exact ⟨hc, hs⟩
theorem m_objInit {ix h : Nat} (hd : decode (dC M) pc = .ok (.invokespecial ix, 3)) (hl : Cond.methodLink (dOwn M) ix Lib.objectInit ∈ TB ∧ Cond.instanceMethod Lib.objectInit ∈ TB ∧ Cond.code Lib.objectInit ⟨#[0xb1]⟩ 1 none ∈ TB) (hw : (st.map Value.category).sum ≤ 8) (hv : 1 ≤ dV M) (kk : mW K M cs sl n hp (pc + 3) lv st) : mW K M cs sl n hp pc lv (.ref h :: st) := fun hk H locs ls hR hlv => by
  have hR' := hk.2.2.2.2.2.2.2.2.2
  refine W.objInit hk.1 hk.2.1 hk.2.2.2.1 (hk.2.2.2.2.1 _ hl.1) (hk.2.2.2.2.1 _ hl.2.1) (hk.2.2.2.2.1 _ hl.2.2) rfl (by rw [hk.2.2.1]; exact hlv.1) rfl hd (by rw [hR']; exact hv) ?_ (kk hk H locs ls hR hlv)
  rw [hR']
  show 2 * 0 + _ + 12 ≤ 40 * dV M
  rw [m_words]
  omega
/-- System.arraycopy of ints -/
theorem m_copyI {ix h0 h1 n0 n1 s0 d0 k : Nat} {f g : Nat → Int32} {sp dp z : Int32} (hd : decode (dC M) pc = .ok (.invokestatic ix, 3)) (hl : Cond.methodLink (dOwn M) ix arraycopyName ∈ TB ∧ Cond.native arraycopyName ∈ TB ∧ Cond.static arraycopyName ∈ TB ∧ Cond.initialized "java/lang/System" ∈ TB) (hc0 : hp h0 = eI n0 f) (hc1 : hp h1 = eI n1 g) (hs : sp.toInt = (s0 : Int)) (hp' : dp.toInt = (d0 : Int)) (hz : z.toInt = (k : Int)) (hb0 : s0 + k ≤ n0) (hb1 : d0 + k ≤ n1) (hw : (st.map Value.category).sum ≤ 8) (hv : 1 ≤ dV M)
    (kk : mW K M cs sl n (va_up hp h1 (eI n1 (va_cpy f g s0 d0 k))) (pc + 3) lv st) : mW K M cs sl n hp pc lv (.int z :: .int dp :: .ref h1 :: .int sp :: .ref h0 :: st) := fun hk H locs ls hR hlv => by
  have hR' := hk.2.2.2.2.2.2.2.2.2
  have hh0 : h0 < n := mlt_a hR hc0
  have hh1 : h1 < n := mlt_a hR hc1
  have is : mIx sp s0 (s0 + 1) := ⟨hs, by omega⟩
  have id : mIx dp d0 (d0 + 1) := ⟨hp', by omega⟩
  have iz : mIx z k (k + 1) := ⟨hz, by omega⟩
  refine va_copyi hk.1 hk.2.1 (by rw [hk.2.2.1]; exact hlv.1.symm) hk.2.2.2.1 (hk.2.2.2.2.1 _ hl.1) (hk.2.2.2.2.1 _ hl.2.1) (hk.2.2.2.2.1 _ hl.2.2.1) (hk.2.2.2.2.1 _ hl.2.2.2) hk.2.2.2.2.2.1 hR.1 (m_apart hk.2.2.2.2.2.2.2.1 hR.2.2.2.2) hR.2.2.1 h0 h1 0 0 (ty := .int) (n0 := n0) (n1 := n1) (f := f) (g := g) (by rw [mws_at hh0, hc0]; rfl) (by rw [mws_at hh1, hc1]; rfl) rfl rfl rfl is.nn id.nn iz.nn (by rw [is.cl, iz.cl]; exact hb0) (by rw [id.cl, iz.cl]; exact hb1) (fun _ _ => rfl) (by rw [hR']; exact hv) ?_ hd (fun H1 locs1 hP1 hD1 hS1 => ?_)
  · rw [hR']
    show _ + _ ≤ 40 * dV M
    rw [m_words]
    have : nativeFrameWords "java/lang/System" "arraycopy" 5 + 11 ≤ 32 := by decide +kernel
    omega
  · rw [is.cl, id.cl, iz.cl] at hP1
    exact kk hk H1 locs1 ls (hR.up hh1 hP1 hS1) hlv
theorem m_copyL {ix h0 h1 n0 n1 s0 d0 k : Nat} {f g : Nat → Int64} {sp dp z : Int32} (hd : decode (dC M) pc = .ok (.invokestatic ix, 3)) (hl : Cond.methodLink (dOwn M) ix arraycopyName ∈ TB ∧ Cond.native arraycopyName ∈ TB ∧ Cond.static arraycopyName ∈ TB ∧ Cond.initialized "java/lang/System" ∈ TB) (hc0 : hp h0 = eL n0 f) (hc1 : hp h1 = eL n1 g) (hs : sp.toInt = (s0 : Int)) (hp' : dp.toInt = (d0 : Int)) (hz : z.toInt = (k : Int)) (hb0 : s0 + k ≤ n0) (hb1 : d0 + k ≤ n1) (hw : (st.map Value.category).sum ≤ 8) (hv : 1 ≤ dV M)
    (kk : mW K M cs sl n (va_up hp h1 (eL n1 (va_cpy f g s0 d0 k))) (pc + 3) lv st) : mW K M cs sl n hp pc lv (.int z :: .int dp :: .ref h1 :: .int sp :: .ref h0 :: st) := fun hk H locs ls hR hlv => by
  have hR' := hk.2.2.2.2.2.2.2.2.2
  have hh0 : h0 < n := mlt_a hR hc0
  have hh1 : h1 < n := mlt_a hR hc1
  have is : mIx sp s0 (s0 + 1) := ⟨hs, by omega⟩
  have id : mIx dp d0 (d0 + 1) := ⟨hp', by omega⟩
  have iz : mIx z k (k + 1) := ⟨hz, by omega⟩
  refine va_copyl hk.1 hk.2.1 (by rw [hk.2.2.1]; exact hlv.1.symm) hk.2.2.2.1 (hk.2.2.2.2.1 _ hl.1) (hk.2.2.2.2.1 _ hl.2.1) (hk.2.2.2.2.1 _ hl.2.2.1) (hk.2.2.2.2.1 _ hl.2.2.2) hk.2.2.2.2.2.1 hR.1 (m_apart hk.2.2.2.2.2.2.2.1 hR.2.2.2.2) hR.2.2.1 h0 h1 1 1 (ty := .long) (n0 := n0) (n1 := n1) (f := f) (g := g) (by rw [mws_at hh0, hc0]; rfl) (by rw [mws_at hh1, hc1]; rfl) rfl rfl rfl is.nn id.nn iz.nn (by rw [is.cl, iz.cl]; exact hb0) (by rw [id.cl, iz.cl]; exact hb1) (fun _ _ => rfl) (by rw [hR']; exact hv) ?_ hd (fun H1 locs1 hP1 hD1 hS1 => ?_)
  · rw [hR']
    show _ + _ ≤ 40 * dV M
    rw [m_words]
    have : nativeFrameWords "java/lang/System" "arraycopy" 5 + 11 ≤ 32 := by decide +kernel
    omega
  · rw [is.cl, id.cl, iz.cl] at hP1
    exact kk hk H1 locs1 ls (hR.up hh1 hP1 hS1) hlv
end MC
end
